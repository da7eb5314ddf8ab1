theorem m_i_remU {x y v : Int32} (h : x * y = v) : -2147483648 ≤ x.toInt * y.toInt → x.toInt * y.toInt < 2147483648 → v.toInt = x.toInt * y.toInt := i_mulT h
theorem s_i_remU {x y v : Int32} (h : x - y = v) : -2147483648 ≤ x.toInt - y.toInt → x.toInt - y.toInt < 2147483648 → v.toInt = x.toInt - y.toInt := i_subT h
theorem m_l_remU {x y v : Int64} (h : x * y = v) : -9223372036854775808 ≤ x.toInt * y.toInt → x.toInt * y.toInt < 9223372036854775808 → v.toInt = x.toInt * y.toInt := by
  subst h; intro h1 h2; rw [Int64.toInt_mul]; exact Int.bmod_eq_of_le (by omega) (by omega)
theorem s_l_remU {x y v : Int64} (h : x - y = v) : -9223372036854775808 ≤ x.toInt - y.toInt → x.toInt - y.toInt < 9223372036854775808 → v.toInt = x.toInt - y.toInt := by
  subst h; intro h1 h2; rw [Int64.toInt_sub]; exact Int.bmod_eq_of_le (by omega) (by omega)
theorem a_l_remU {x y v : Int64} (h : x + y = v) : -9223372036854775808 ≤ x.toInt + y.toInt → x.toInt + y.toInt < 9223372036854775808 → v.toInt = x.toInt + y.toInt := by
  subst h; intro h1 h2; rw [Int64.toInt_add]; exact Int.bmod_eq_of_le (by omega) (by omega)
theorem i_remU_dn {x y : Int32} (hy : 0 < y.toInt) : (x / y).toInt = x.toInt.tdiv y.toInt := Int32.toInt_div_of_ne_right _ _ (fun q => by rw [q] at hy; exact absurd hy (by decide))
theorem i_remU {x y v : Int32} (h : x - x / y * y = v) : 0 < y.toInt → v.toInt = x.toInt.tmod y.toInt ∧ -y.toInt < v.toInt ∧ v.toInt < y.toInt ∧ (0 ≤ x.toInt → 0 ≤ v.toInt ∧ v.toInt = x.toInt % y.toInt) ∧ (x.toInt ≤ 0 → v.toInt ≤ 0) := by
  intro hy
  have hT : x.toInt.tdiv y.toInt * y.toInt = x.toInt - x.toInt.tmod y.toInt := by
    have := Int.tmod_def x.toInt y.toInt
    rw [Int.mul_comm] at this
    omega
  have hd := i_remU_dn (x := x) hy
  have ux := Int32.toInt_lt x
  have wx := Int32.le_toInt x
  have h1 := m_i_remU (x := x / y) (y := y) (v := x / y * y) rfl
  have h2 := s_i_remU (x := x) (y := x / y * y) (v := v) h
  rw [hd, hT] at h1
  rcases Int.le_total 0 x.toInt with hx | hx
  · have a1 := Int.tmod_nonneg y.toInt hx
    have a2 := Int.tmod_lt_of_pos x.toInt hy
    have a3 : 0 ≤ x.toInt.tdiv y.toInt * y.toInt := Int.mul_nonneg (Int.tdiv_nonneg hx (Int.le_of_lt hy)) (Int.le_of_lt hy)
    rw [hT] at a3
    have h3 := h1 (by omega) (by omega)
    rw [h3] at h2
    have h4 := h2 (by omega) (by omega)
    have e4 : x.toInt.tmod y.toInt = x.toInt % y.toInt := Int.tmod_eq_emod_of_nonneg hx
    refine ⟨by omega, by omega, by omega, fun _ => ⟨by omega, by omega⟩, fun _ => by omega⟩
  · have b0 : 0 ≤ -x.toInt := by omega
    have a1 := Int.tmod_nonneg y.toInt b0
    have a2 := Int.tmod_lt_of_pos (-x.toInt) hy
    have a3 : 0 ≤ (-x.toInt).tdiv y.toInt * y.toInt := Int.mul_nonneg (Int.tdiv_nonneg b0 (Int.le_of_lt hy)) (Int.le_of_lt hy)
    rw [Int.neg_tdiv, Int.neg_mul, hT] at a3
    rw [Int.neg_tmod] at a1 a2
    have h3 := h1 (by omega) (by omega)
    rw [h3] at h2
    have h4 := h2 (by omega) (by omega)
    refine ⟨by omega, by omega, by omega, fun hz => ?_, fun _ => by omega⟩
    have e0 : x.toInt = 0 := by omega
    have e4 : x.toInt.tmod y.toInt = x.toInt % y.toInt := by rw [e0]; simp
    exact ⟨by omega, by omega⟩
theorem l_remU_dn {x y : Int64} (hy : 0 < y.toInt) : (x / y).toInt = x.toInt.tdiv y.toInt := Int64.toInt_div_of_ne_right _ _ (fun q => by rw [q] at hy; exact absurd hy (by decide))
theorem l_remU {x y v : Int64} (h : x - x / y * y = v) : 0 < y.toInt → v.toInt = x.toInt.tmod y.toInt ∧ -y.toInt < v.toInt ∧ v.toInt < y.toInt ∧ (0 ≤ x.toInt → 0 ≤ v.toInt ∧ v.toInt = x.toInt % y.toInt) ∧ (x.toInt ≤ 0 → v.toInt ≤ 0) := by
  intro hy
  have hT : x.toInt.tdiv y.toInt * y.toInt = x.toInt - x.toInt.tmod y.toInt := by
    have := Int.tmod_def x.toInt y.toInt
    rw [Int.mul_comm] at this
    omega
  have hd := l_remU_dn (x := x) hy
  have ux := Int64.toInt_lt x
  have wx := Int64.le_toInt x
  have h1 := m_l_remU (x := x / y) (y := y) (v := x / y * y) rfl
  have h2 := s_l_remU (x := x) (y := x / y * y) (v := v) h
  rw [hd, hT] at h1
  rcases Int.le_total 0 x.toInt with hx | hx
  · have a1 := Int.tmod_nonneg y.toInt hx
    have a2 := Int.tmod_lt_of_pos x.toInt hy
    have a3 : 0 ≤ x.toInt.tdiv y.toInt * y.toInt := Int.mul_nonneg (Int.tdiv_nonneg hx (Int.le_of_lt hy)) (Int.le_of_lt hy)
    rw [hT] at a3
    have h3 := h1 (by omega) (by omega)
    rw [h3] at h2
    have h4 := h2 (by omega) (by omega)
    have e4 : x.toInt.tmod y.toInt = x.toInt % y.toInt := Int.tmod_eq_emod_of_nonneg hx
    refine ⟨by omega, by omega, by omega, fun _ => ⟨by omega, by omega⟩, fun _ => by omega⟩
  · have b0 : 0 ≤ -x.toInt := by omega
    have a1 := Int.tmod_nonneg y.toInt b0
    have a2 := Int.tmod_lt_of_pos (-x.toInt) hy
    have a3 : 0 ≤ (-x.toInt).tdiv y.toInt * y.toInt := Int.mul_nonneg (Int.tdiv_nonneg b0 (Int.le_of_lt hy)) (Int.le_of_lt hy)
    rw [Int.neg_tdiv, Int.neg_mul, hT] at a3
    rw [Int.neg_tmod] at a1 a2
    have h3 := h1 (by omega) (by omega)
    rw [h3] at h2
    have h4 := h2 (by omega) (by omega)
    refine ⟨by omega, by omega, by omega, fun hz => ?_, fun _ => by omega⟩
    have e0 : x.toInt = 0 := by omega
    have e4 : x.toInt.tmod y.toInt = x.toInt % y.toInt := by rw [e0]; simp
    exact ⟨by omega, by omega⟩
theorem i_divU {x y v : Int32} (h : x / y = v) : 0 < y.toInt → v.toInt = x.toInt.tdiv y.toInt ∧ (0 ≤ x.toInt → v.toInt = x.toInt / y.toInt) ∧ (x.toInt ≤ 0 → x.toInt ≤ v.toInt ∧ v.toInt ≤ 0) := by
  intro hy
  subst h
  have hd := i_remU_dn (x := x) hy
  refine ⟨hd, fun hx => ?_, fun hx => ?_⟩
  · rw [hd, Int.tdiv_eq_ediv_of_nonneg hx]
  · rw [hd]
    have b0 : 0 ≤ -x.toInt := by omega
    have a1 := Int.tdiv_nonneg b0 (Int.le_of_lt hy)
    have a2 : (-x.toInt).tdiv y.toInt ≤ -x.toInt := by
      rw [Int.tdiv_eq_ediv_of_nonneg b0]
      exact Int.ediv_le_self _ b0
    rw [Int.neg_tdiv] at a1 a2
    omega
theorem i_shlU {x y v : Int32} (h : x <<< (y &&& 31) = v) : x = 1 → 0 ≤ y.toInt → y.toInt ≤ 4 → 1 ≤ v.toInt ∧ v.toInt ≤ 16 := by
  intro hx h0 h4
  subst hx
  have hy : y = 0 ∨ y = 1 ∨ y = 2 ∨ y = 3 ∨ y = 4 := by
    simp only [← Int32.toInt_inj, Int32.reduceToInt]
    omega
  rcases hy with rfl | rfl | rfl | rfl | rfl <;> subst h <;> decide
/-- frames over the reference: arrays, and fields of its object (84) -/
def Fm (qs ks : List Nat) (σ σ' : St) : Prop := ∀ q k, List.elem q qs = false → (q == 84 && List.elem k ks) = false → gi σ' q k = gi σ q k ∧ gl σ' q k = gl σ q k ∧ gb σ' q k = gb σ q k ∧ gy σ' q k = gy σ q k ∧ gr σ' q k = gr σ q k
section FM
variable {qs ks qs' ks' : List Nat} {σ a b c : St}
theorem Fm.rf (qs ks : List Nat) (σ : St) : Fm qs ks σ σ := fun _ _ _ _ => ⟨rfl, rfl, rfl, rfl, rfl⟩
theorem Fm.tr (h : Fm qs ks a b) (h' : Fm qs ks b c) : Fm qs ks a c := fun q k h1 h2 => ⟨(h' q k h1 h2).1.trans (h q k h1 h2).1, (h' q k h1 h2).2.1.trans (h q k h1 h2).2.1, (h' q k h1 h2).2.2.1.trans (h q k h1 h2).2.2.1, (h' q k h1 h2).2.2.2.1.trans (h q k h1 h2).2.2.2.1, (h' q k h1 h2).2.2.2.2.trans (h q k h1 h2).2.2.2.2⟩
theorem elem_sub {xs ys : List Nat} (e : xs.all (fun x => List.elem x ys) = true) {q : Nat} (h : List.elem q ys = false) : List.elem q xs = false := by
  cases h9 : List.elem q xs with
  | false => rfl
  | true =>
    have h1 := List.all_eq_true.mp e q (List.elem_iff.mp h9)
    rw [h] at h1
    cases h1
theorem Fm.wd (h : Fm qs ks a b) (e1 : qs.all (fun x => List.elem x qs') = true) (e2 : ks.all (fun x => List.elem x ks') = true) : Fm qs' ks' a b := fun q k h1 h2 => h q k (elem_sub e1 h1) (by
  cases h9 : (q == 84) with
  | false => rfl
  | true =>
    rw [h9] at h2
    rw [Bool.true_and] at h2 ⊢
    exact elem_sub e2 h2)
theorem fm_ne {q k q' k' : Nat} (e : (List.elem q qs || (q == 84 && List.elem k ks)) = true) (h1 : List.elem q' qs = false) (h2 : (q' == 84 && List.elem k' ks) = false) : ¬ (q' = q ∧ k' = k) := by
  rintro ⟨rfl, rfl⟩
  rw [h1, h2] at e
  cases e
theorem Fm.si (h : Fm qs ks σ a) {q k : Nat} {v : Int32} (e : (List.elem q qs || (q == 84 && List.elem k ks)) = true) : Fm qs ks σ (si a q k v) := fun q' k' h1 h2 => by
  have hn := fm_ne e h1 h2
  have h9 := h q' k' h1 h2
  refine ⟨?_, h9.2.1, h9.2.2.1, h9.2.2.2.1, h9.2.2.2.2⟩
  rw [← h9.1]
  simp only [gi, _root_.si, up2, if_neg hn]
theorem Fm.sl (h : Fm qs ks σ a) {q k : Nat} {v : Int64} (e : (List.elem q qs || (q == 84 && List.elem k ks)) = true) : Fm qs ks σ (sl a q k v) := fun q' k' h1 h2 => by
  have hn := fm_ne e h1 h2
  have h9 := h q' k' h1 h2
  refine ⟨h9.1, ?_, h9.2.2.1, h9.2.2.2.1, h9.2.2.2.2⟩
  rw [← h9.2.1]
  simp only [gl, _root_.sl, up2, if_neg hn]
theorem Fm.sb (h : Fm qs ks σ a) {q k : Nat} {v : Bool} (e : (List.elem q qs || (q == 84 && List.elem k ks)) = true) : Fm qs ks σ (sb a q k v) := fun q' k' h1 h2 => by
  have hn := fm_ne e h1 h2
  have h9 := h q' k' h1 h2
  refine ⟨h9.1, h9.2.1, ?_, h9.2.2.2.1, h9.2.2.2.2⟩
  rw [← h9.2.2.1]
  simp only [gb, _root_.sb, up2, if_neg hn]
theorem Fm.sy (h : Fm qs ks σ a) {q k : Nat} {v : Int8} (e : (List.elem q qs || (q == 84 && List.elem k ks)) = true) : Fm qs ks σ (sy a q k v) := fun q' k' h1 h2 => by
  have hn := fm_ne e h1 h2
  have h9 := h q' k' h1 h2
  refine ⟨h9.1, h9.2.1, h9.2.2.1, ?_, h9.2.2.2.2⟩
  rw [← h9.2.2.2.1]
  simp only [gy, _root_.sy, up2, if_neg hn]
theorem Fm.gi (f : Fm qs ks a b) {q k : Nat} (h1 : List.elem q qs = false) (h2 : (q == 84 && List.elem k ks) = false) : gi b q k = gi a q k := (f q k h1 h2).1
theorem Fm.gl (f : Fm qs ks a b) {q k : Nat} (h1 : List.elem q qs = false) (h2 : (q == 84 && List.elem k ks) = false) : gl b q k = gl a q k := (f q k h1 h2).2.1
theorem Fm.gb (f : Fm qs ks a b) {q k : Nat} (h1 : List.elem q qs = false) (h2 : (q == 84 && List.elem k ks) = false) : gb b q k = gb a q k := (f q k h1 h2).2.2.1
theorem Fm.gy (f : Fm qs ks a b) {q k : Nat} (h1 : List.elem q qs = false) (h2 : (q == 84 && List.elem k ks) = false) : gy b q k = gy a q k := (f q k h1 h2).2.2.2.1
theorem Fm.gr (f : Fm qs ks a b) {q k : Nat} (h1 : List.elem q qs = false) (h2 : (q == 84 && List.elem k ks) = false) : gr b q k = gr a q k := (f q k h1 h2).2.2.2.2
end FM
/-- what holds of all numbers of an array -/
def AR (P : Nat → Int → Prop) (σ : St) (q : Nat) : Prop := ∀ k, P k (gi σ q k).toInt
section AR
variable {P : Nat → Int → Prop} {s s' : St} {q q' k : Nat}
theorem ar_at (h : AR P s q) (k : Nat) : P k (gi s q k).toInt := h k
theorem ar_w {v : Int32} (h : s' = si s q k v) (hv : P k v.toInt) (a : AR P s q) : AR P s' q := by
  subst h
  intro j
  by_cases e : j = k
  · subst e
    simpa only [gi, si, up2, and_self, if_true] using hv
  · have := a j
    simpa only [gi, si, up2, e, and_false, if_false] using this
theorem ar_ni {v : Int32} (h : s' = si s q' k v) (hne : ¬ q = q') (a : AR P s q) : AR P s' q := by
  subst h
  intro j
  have := a j
  simpa only [gi, si, up2, hne, false_and, if_false] using this
theorem ar_nl {v : Int64} (h : s' = sl s q' k v) (a : AR P s q) : AR P s' q := by subst h; exact a
theorem ar_nb {v : Bool} (h : s' = sb s q' k v) (a : AR P s q) : AR P s' q := by subst h; exact a
theorem ar_ny {v : Int8} (h : s' = sy s q' k v) (a : AR P s q) : AR P s' q := by subst h; exact a
theorem ar_nr {v : Nat} (h : s' = sr s q' k v) (a : AR P s q) : AR P s' q := by subst h; exact a
theorem ar_fm {qs ks : List Nat} (f : Fm qs ks s s') (h1 : List.elem q qs = false) (h2 : (q == 84) = false) (a : AR P s q) : AR P s' q := fun k => by
  rw [Fm.gi f h1 (by rw [h2]; rfl)]
  exact a k
end AR
/-- the rows of places of one digest: each place's next one lies before it -/
def CHA (σ : St) : Prop := ∀ k : Nat, (k : Int) < (gi σ 84 129).toInt → -1 ≤ (gi σ 126 k).toInt ∧ (gi σ 126 k).toInt < k
def HDS (σ : St) : Prop := ∀ k : Nat, k < 32768 → -1 ≤ (gi σ 127 k).toInt ∧ (gi σ 127 k).toInt < (gi σ 84 129).toInt
theorem CHA_of {s s' : St} (e1 : ∀ k, gi s' 126 k = gi s 126 k) (e2 : gi s' 84 129 = gi s 84 129) (h : CHA s) : CHA s' := fun k hk => by
  rw [e1]; rw [e2] at hk; exact h k hk
theorem HDS_of {s s' : St} (e1 : ∀ k, gi s' 127 k = gi s 127 k) (e2 : gi s' 84 129 = gi s 84 129) (h : HDS s) : HDS s' := fun k hk => by
  rw [e1, e2]; exact h k hk
theorem cha_at {s : St} (h : CHA s) {k : Nat} {v : Int32} (e : gi s 126 k = v) (hk : (k : Int) < (gi s 84 129).toInt) : -1 ≤ v.toInt ∧ v.toInt < k := by rw [← e]; exact h k hk
theorem hds_at {s : St} (h : HDS s) {k : Nat} {v : Int32} (e : gi s 127 k = v) (hk : k < 32768) : -1 ≤ v.toInt ∧ v.toInt < (gi s 84 129).toInt := by rw [← e]; exact h k hk
theorem cha_add {s0 s1 s2 s3 : St} {v w x : Int32} {n h : Nat} (e1 : s1 = si s0 126 n v) (e2 : s2 = si s1 127 h w) (e3 : s3 = si s2 84 129 x) (c : CHA s0) (d : HDS s0) (hn : (n : Int) = (gi s0 84 129).toInt) (hv : v = gi s0 127 h) (hh : h < 32768) (hw : w = gi s0 84 129) (hx : x.toInt = (gi s0 84 129).toInt + 1) : CHA s3 ∧ HDS s3 := by
  have p3 : gi s3 84 129 = x := by rw [e3]; simp [gi, si, up2]
  have c3 : ∀ k, gi s3 126 k = if k = n then v else gi s0 126 k := fun k => by
    rw [e3, e2, e1]; simp [gi, si, up2]
  have h3 : ∀ k, gi s3 127 k = if k = h then w else gi s0 127 k := fun k => by
    rw [e3, e2, e1]; simp [gi, si, up2]
  refine ⟨fun k hk => ?_, fun k hk => ?_⟩
  · rw [c3]
    rw [p3, hx] at hk
    by_cases e : k = n
    · rw [if_pos e, hv, e, hn]; exact d h hh
    · rw [if_neg e]; exact c k (by omega)
  · rw [h3, p3, hx]
    by_cases e : k = h
    · rw [if_pos e, hw]; omega
    · rw [if_neg e]; have := d k hk; omega
theorem hds_new {s0 s : St} {x : Int32} (e : s = si s0 84 129 x) (hx : x.toInt = 0) (h : ∀ k : Nat, k < 32768 → (gi s0 127 k).toInt = -1) : HDS s ∧ CHA s := by
  have p3 : gi s 84 129 = x := by rw [e]; simp [gi, si, up2]
  refine ⟨fun k hk => ?_, fun k hk => ?_⟩
  · have := h k hk
    rw [p3, hx, e]
    simp only [gi, si, up2] at this ⊢
    simp
    omega
  · rw [p3, hx] at hk; omega
/-- a loop that fills an array from its beginning on -/
def FILL (P : Int → Prop) (σ : St) (q n : Nat) : Prop := ∀ k : Nat, k < n → P (gi σ q k).toInt
theorem fill_0 {P : Int → Prop} {σ : St} {q : Nat} : FILL P σ q 0 := fun k h => absurd h (Nat.not_lt_zero k)
theorem fill_w {P : Int → Prop} {s s' : St} {q n : Nat} {v : Int32} (e : s' = si s q n v) (hv : P v.toInt) (h : FILL P s q n) : FILL P s' q (n + 1) := fun k hk => by
  subst e
  by_cases c : k = n
  · subst c; simpa [gi, si, up2] using hv
  · have := h k (by omega); simpa [gi, si, up2, c] using this
theorem all_w {P : Int → Prop} {s s' : St} {q : Nat} {i j : Int32} {v : Int32} (e : s' = si s q i.toNatClampNeg v) (hv : P v.toInt) (h : ∀ k : Nat, (k : Int) < i.toInt → P (gi s q k).toInt) (hi : 0 ≤ i.toInt) (hj : j.toInt = i.toInt + 1) : ∀ k : Nat, (k : Int) < j.toInt → P (gi s' q k).toInt := fun k hk => by
  subst e
  have e9 : i.toNatClampNeg = i.toInt.toNat := rfl
  by_cases c : k = i.toNatClampNeg
  · subst c; simpa [gi, si, up2] using hv
  · have := h k (by omega); simpa [gi, si, up2, c] using this
/-- what stands for a divisor in a place: always or never, or 16 times its modulus and its number -/
def DVo (w v : Int) : Prop := w ≤ 0 ∨ v < 0 ∨ (16 ≤ v ∧ v ≤ 207)
def DI (σ : St) : Prop := ∀ k : Nat, (k : Int) < (gi σ 84 119).toInt → DVo (gi σ 135 k).toInt (gi σ 125 k).toInt
def DV (σ : St) : Prop := ∀ p k : Nat, (p : Int) < (gi σ 84 129).toInt → (k : Int) < (gi σ 84 119).toInt → k < 32 → DVo (gi σ 135 k).toInt (gi σ 129 (32 * p + k)).toInt
def WOK (σ : St) : Prop := ∀ k : Nat, 0 < (gi σ 135 k).toInt → 0 ≤ (gi σ 136 k).toInt ∧ (gi σ 136 k).toInt ≤ 11
theorem DI_of {s s' : St} (e1 : ∀ k, gi s' 125 k = gi s 125 k) (e2 : ∀ k, gi s' 135 k = gi s 135 k) (e3 : gi s' 84 119 = gi s 84 119) (h : DI s) : DI s' := fun k hk => by
  rw [e1, e2]; rw [e3] at hk; exact h k hk
theorem DV_of {s s' : St} (e1 : ∀ k, gi s' 129 k = gi s 129 k) (e2 : ∀ k, gi s' 135 k = gi s 135 k) (e3 : gi s' 84 119 = gi s 84 119) (e4 : gi s' 84 129 = gi s 84 129) (h : DV s) : DV s' := fun p k hp hk h32 => by
  rw [e1, e2]; rw [e3] at hk; rw [e4] at hp; exact h p k hp hk h32
theorem WOK_of {s s' : St} (e1 : ∀ k, gi s' 135 k = gi s 135 k) (e2 : ∀ k, gi s' 136 k = gi s 136 k) (h : WOK s) : WOK s' := fun k hk => by
  rw [e2]; rw [e1] at hk; exact h k hk
theorem dv_w {s s' : St} {n : Nat} {v : Int32} (e : s' = si s 129 n v) (h : DV s) (hn : 32 * (gi s 84 129).toInt ≤ (n : Int)) : DV s' := fun p k hp hk h32 => by
  subst e
  have h1 : gi (si s 129 n v) 129 (32 * p + k) = gi s 129 (32 * p + k) := by
    have : ¬ 32 * p + k = n := by
      have hp' : (p : Int) < (gi s 84 129).toInt := by simpa [gi, si, up2] using hp
      omega
    simp [gi, si, up2, this]
  rw [h1]
  have hp' : (p : Int) < (gi s 84 129).toInt := by simpa [gi, si, up2] using hp
  have hk' : (k : Int) < (gi s 84 119).toInt := by simpa [gi, si, up2] using hk
  simpa [gi, si, up2] using h p k hp' hk' h32
theorem dv_add {s0 s1 s2 s3 : St} {v w x : Int32} {n h : Nat} (e1 : s1 = si s0 126 n v) (e2 : s2 = si s1 127 h w) (e3 : s3 = si s2 84 129 x) (c : DV s0) (d : DI s0) (hx : x.toInt = (gi s0 84 129).toInt + 1) (h0 : 0 ≤ (gi s0 84 129).toInt) (hr : ∀ k : Nat, (k : Int) < (gi s0 84 119).toInt → gi s0 129 (32 * (gi s0 84 129).toInt.toNat + k) = gi s0 125 k) : DV s3 := fun p k hp hk h32 => by
  have p3 : gi s3 84 129 = x := by rw [e3]; simp [gi, si, up2]
  have q1 : gi s3 84 119 = gi s0 84 119 := by rw [e3, e2, e1]; simp [gi, si, up2]
  have q2 : ∀ k, gi s3 129 k = gi s0 129 k := fun k => by rw [e3, e2, e1]; simp [gi, si, up2]
  have q3 : ∀ k, gi s3 135 k = gi s0 135 k := fun k => by rw [e3, e2, e1]; simp [gi, si, up2]
  rw [p3, hx] at hp
  rw [q1] at hk
  rw [q2, q3]
  by_cases e : (p : Int) < (gi s0 84 129).toInt
  · exact c p k e hk h32
  · have e' : p = (gi s0 84 129).toInt.toNat := by omega
    rw [e', hr k hk]
    exact d k hk
theorem row_w {s s' : St} {i j : Int32} {v : Int32} {n : Nat} (e : s' = si s 129 n v) (hn : (n : Int) = 32 * (gi s 84 129).toInt + i.toInt) (h0 : 0 ≤ (gi s 84 129).toInt) (hi : 0 ≤ i.toInt) (hj : j.toInt = i.toInt + 1) (hv : v = gi s 125 i.toNatClampNeg) (h : ∀ k : Nat, (k : Int) < i.toInt → gi s 129 (32 * (gi s 84 129).toInt.toNat + k) = gi s 125 k) : ∀ k : Nat, (k : Int) < j.toInt → gi s' 129 (32 * (gi s' 84 129).toInt.toNat + k) = gi s' 125 k := fun k hk => by
  subst e
  have e9 : i.toNatClampNeg = i.toInt.toNat := rfl
  have a1 : gi (si s 129 n v) 84 129 = gi s 84 129 := by simp [gi, si, up2]
  have a2 : gi (si s 129 n v) 125 k = gi s 125 k := by simp [gi, si, up2]
  rw [a1, a2]
  by_cases c : (k : Int) < i.toInt
  · have : ¬ 32 * (gi s 84 129).toInt.toNat + k = n := by omega
    rw [← h k c]
    simp [gi, si, up2]
    intro q
    exact absurd q this
  · have c' : k = i.toNatClampNeg := by omega
    have : 32 * (gi s 84 129).toInt.toNat + k = n := by omega
    rw [this, c', ← hv]
    simp [gi, si, up2]
theorem dv_at {s : St} (h : DV s) {p k ix : Nat} {v : Int32} (e : gi s 129 ix = v) (hix : ix = 32 * p + k) (hp : (p : Int) < (gi s 84 129).toInt) (hk : (k : Int) < (gi s 84 119).toInt) (h32 : k < 32) : DVo (gi s 135 k).toInt v.toInt := by rw [← e, hix]; exact h p k hp hk h32
theorem dv_new {s0 s : St} {x : Int32} (e : s = si s0 84 129 x) (hx : x.toInt = 0) : DV s := fun p k hp _ _ => by
  have p3 : gi s 84 129 = x := by rw [e]; simp [gi, si, up2]
  rw [p3, hx] at hp; omega
theorem di_w {s s' : St} {i j : Int32} {v : Int32} (e : s' = si s 125 i.toNatClampNeg v) (hv : DVo (gi s 135 i.toNatClampNeg).toInt v.toInt) (h : ∀ k : Nat, (k : Int) < i.toInt → DVo (gi s 135 k).toInt (gi s 125 k).toInt) (hi : 0 ≤ i.toInt) (hj : j.toInt = i.toInt + 1) : ∀ k : Nat, (k : Int) < j.toInt → DVo (gi s' 135 k).toInt (gi s' 125 k).toInt := fun k hk => by
  subst e
  have e9 : i.toNatClampNeg = i.toInt.toNat := rfl
  by_cases c : k = i.toNatClampNeg
  · subst c; simpa [gi, si, up2] using hv
  · have := h k (by omega); simpa [gi, si, up2, c] using this
theorem i_shl1 {y v : Int32} (h : (1 : Int32) <<< (y &&& 31) = v) : 0 ≤ y.toInt → y.toInt ≤ 4 → 1 ≤ v.toInt ∧ v.toInt ≤ 16 := i_shlU h rfl
/-- an atom of a slot and a row at work are alike -/
def EQR (σ : St) (x k : Nat) : Prop := (gi σ 157 x = gi σ 135 k ∧ gi σ 158 x = gi σ 136 k) ∧ ∀ v : Nat, v < 4 → gi σ 159 (4 * x + v) = gi σ 137 (4 * k + v)
theorem bs_0t {E : Prop} {F : Nat → Prop} {i : Int32} (hi : i.toInt = 0) (hE : E) : true = true ↔ E ∧ ∀ v : Nat, (v : Int) < i.toInt → F v := ⟨fun _ => ⟨hE, fun v hv => by omega⟩, fun _ => rfl⟩
theorem bs_0f {E : Prop} {F : Nat → Prop} {i : Int32} (hi : i.toInt = 0) (hE : ¬ E) : false = true ↔ E ∧ ∀ v : Nat, (v : Int) < i.toInt → F v := ⟨fun h => by cases h, fun h => absurd h.1 hE⟩
theorem bs_tt {E : Prop} {F : Nat → Prop} {b : Bool} {i j : Int32} (h : b = true ↔ E ∧ ∀ v : Nat, (v : Int) < i.toInt → F v) (hb : b = true) (hi : 0 ≤ i.toInt) (hj : j.toInt = i.toInt + 1) (hF : F i.toNatClampNeg) : true = true ↔ E ∧ ∀ v : Nat, (v : Int) < j.toInt → F v := ⟨fun _ => ⟨(h.mp hb).1, fun v hv => by
  have e9 : i.toNatClampNeg = i.toInt.toNat := rfl
  by_cases c : v = i.toNatClampNeg
  · rw [c]; exact hF
  · exact (h.mp hb).2 v (by omega)⟩, fun _ => rfl⟩
theorem bs_tf {E : Prop} {F : Nat → Prop} {i j : Int32} (hi : 0 ≤ i.toInt) (hj : j.toInt = i.toInt + 1) (hF : ¬ F i.toNatClampNeg) : false = true ↔ E ∧ ∀ v : Nat, (v : Int) < j.toInt → F v := ⟨fun h => by cases h, fun h => absurd (h.2 i.toNatClampNeg (by
  have e9 : i.toNatClampNeg = i.toInt.toNat := rfl
  omega)) hF⟩
theorem bs_ff {E : Prop} {F : Nat → Prop} {b : Bool} {i j : Int32} (h : b = true ↔ E ∧ ∀ v : Nat, (v : Int) < i.toInt → F v) (hb : b = false) (hj : j.toInt = i.toInt + 1) : false = true ↔ E ∧ ∀ v : Nat, (v : Int) < j.toInt → F v := ⟨fun h => by cases h, fun h9 => by
  have := h.mpr ⟨h9.1, fun v hv => h9.2 v (by omega)⟩
  rw [hb] at this; cases this⟩
theorem eqr_of {σ : St} {X K : Nat} {b : Bool} {i : Int32} (h : b = true ↔ (gi σ 157 X = gi σ 135 K ∧ gi σ 158 X = gi σ 136 K) ∧ ∀ v : Nat, (v : Int) < i.toInt → gi σ 159 (4 * X + v) = gi σ 137 (4 * K + v)) (hb : b = true) (hi : 4 ≤ i.toInt) : EQR σ X K := ⟨(h.mp hb).1, fun v hv => (h.mp hb).2 v (by omega)⟩
theorem eqr_not {σ : St} {X K : Nat} {b : Bool} {i : Int32} (h : b = true ↔ (gi σ 157 X = gi σ 135 K ∧ gi σ 158 X = gi σ 136 K) ∧ ∀ v : Nat, (v : Int) < i.toInt → gi σ 159 (4 * X + v) = gi σ 137 (4 * K + v)) (hb : b = false) (hi : i.toInt ≤ 4) : ¬ EQR σ X K := fun q => by
  have := h.mpr ⟨q.1, fun v hv => q.2 v (by omega)⟩
  rw [hb] at this; cases this
theorem no_step {P : Nat → Prop} {i j : Int32} (h : ∀ k : Nat, (k : Int) < i.toInt → ¬ P k) (hi : 0 ≤ i.toInt) (hj : j.toInt = i.toInt + 1) (hn : ¬ P i.toNatClampNeg) : ∀ k : Nat, (k : Int) < j.toInt → ¬ P k := fun k hk => by
  have e9 : i.toNatClampNeg = i.toInt.toNat := rfl
  by_cases c : k = i.toNatClampNeg
  · rw [c]; exact hn
  · exact h k (by omega)
theorem no_0 {P : Nat → Prop} {i : Int32} (hi : i.toInt ≤ 0) : ∀ k : Nat, (k : Int) < i.toInt → P k := fun k hk => by omega
abbrev ap_85 : Nat → Int → Prop := fun k x => 0 ≤ x ∧ x ≤ 9999
abbrev ap_111 : Nat → Int → Prop := fun k x => 0 ≤ x ∧ x ≤ 23
abbrev ap_123 : Nat → Int → Prop := fun k x => 0 ≤ x ∧ x ≤ 65535
abbrev ap_124 : Nat → Int → Prop := fun k x => 0 ≤ x ∧ x ≤ 65535
abbrev ap_128 : Nat → Int → Prop := fun k x => 0 ≤ x ∧ x ≤ 2999
abbrev ap_135 : Nat → Int → Prop := fun k x => 0 ≤ x ∧ x ≤ 12
abbrev ap_136 : Nat → Int → Prop := fun k x => -99999 ≤ x ∧ x ≤ 99999
abbrev ap_137 : Nat → Int → Prop := fun k x => -20 ≤ x ∧ x ≤ 20
abbrev ap_143 : Nat → Int → Prop := fun k x => 0 ≤ x ∧ x ≤ 24
abbrev ap_144 : Nat → Int → Prop := fun k x => 0 ≤ x ∧ x ≤ 4
abbrev ap_156 : Nat → Int → Prop := fun k x => 0 ≤ x ∧ x ≤ 24
abbrev ap_157 : Nat → Int → Prop := fun k x => 0 ≤ x ∧ x ≤ 12
abbrev ap_158 : Nat → Int → Prop := fun k x => -99999 ≤ x ∧ x ≤ 99999
abbrev ap_159 : Nat → Int → Prop := fun k x => -20 ≤ x ∧ x ≤ 20
abbrev ap_174 : Nat → Int → Prop := fun k x => 0 ≤ x ∧ x ≤ 130
abbrev ap_179 : Nat → Int → Prop := fun k x => 0 ≤ x ∧ x ≤ 260
abbrev ap_183 : Nat → Int → Prop := fun k x => 0 ≤ x ∧ x ≤ 61
abbrev ap_194 : Nat → Int → Prop := fun k x => 0 ≤ x ∧ x ≤ 250
abbrev ap_199 : Nat → Int → Prop := fun k x => 0 ≤ x ∧ x ≤ 120
abbrev ap_200 : Nat → Int → Prop := fun k x => 0 ≤ x ∧ x ≤ 8
abbrev ap_202 : Nat → Int → Prop := fun k x => 0 ≤ x ∧ x ≤ 8
