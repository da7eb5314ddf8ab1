-- ===== formulas, path by path =====
theorem i_and63 {x v : Int32} (h : x &&& 63 = v) (x0 : 0 ≤ x.toInt) (x1 : x.toInt < 64) : v.toInt = x.toInt := by
  subst h
  have key : (x.toBitVec &&& 63#32).toInt = x.toBitVec.toInt % 64 := by
    have e1 : (x.toBitVec &&& 63#32).toNat = x.toBitVec.toNat % 64 := by
      rw [BitVec.toNat_and]
      exact Nat.and_two_pow_sub_one_eq_mod x.toBitVec.toNat 6
    have e2 : (x.toBitVec &&& 63#32).toNat < 64 := by rw [e1]; exact Nat.mod_lt _ (by decide)
    rw [BitVec.toInt_eq_toNat_cond, if_pos (by omega), e1, BitVec.toInt_eq_toNat_cond]
    split <;> omega
  have k2 : (x &&& 63).toInt = x.toInt % 64 := key
  omega
section
variable {T : TkE} {can : Bool} {inner whole : P9} {term : P9} {i t : Nat} {o : Int}
theorem one9_nx (R : R9 T i) (hc : can = true ↔ o < 12) (h : kc9 T i = 25) (hx : ¬ (t < 120 ∧ o < 12)) : one9 T can inner whole term i t = none := by
  rw [one9, if_pos ((kc_wd R 5 (by decide)).mp h), if_neg (fun q => hx ⟨q.1, hc.mp q.2⟩)]
theorem one9_n2 (R : R9 T i) (h : kc9 T i = 25) (e : inner (i + 1) (t + 1) = none) : one9 T can inner whole term i t = none := by
  rw [one9, if_pos ((kc_wd R 5 (by decide)).mp h), e]
  split <;> rfl
theorem one9_n {f : List Int} {j u : Nat} (R : R9 T i) (hc : can = true ↔ o < 12) (h : kc9 T i = 25) (h1 : t < 120) (h2 : o < 12) (e : inner (i + 1) (t + 1) = some (f, j, u)) : one9 T can inner whole term i t = some (f ++ [25], j, u) := by
  rw [one9, if_pos ((kc_wd R 5 (by decide)).mp h), if_pos ⟨h1, hc.mpr h2⟩, e]
theorem nwd {s : Int} (R : R9 T i) (h1 : 1 ≤ s ∧ s ≤ 14) (h : ¬ kc9 T i = 20 + s) : ¬ twd T i s := fun q => h ((kc_wd R s h1).mpr q)
theorem nsg {s : Int} (R : R9 T i) (h1 : 1 ≤ s ∧ s ≤ 17) (h : ¬ kc9 T i = 3 + s) : ¬ tsg T i s := fun q => h ((kc_sg R s h1).mpr q)
theorem one9_px (R : R9 T i) (hc : can = true ↔ o < 12) (h : kc9 T i = 4) (hx : ¬ (t < 120 ∧ o < 12)) : one9 T can inner whole term i t = none := by
  rw [one9, if_neg (nwd R (by decide) (by omega)), if_pos ((kc_sg R 1 (by decide)).mp h), if_neg (fun q => hx ⟨q.1, hc.mp q.2⟩)]
theorem one9_p2 (R : R9 T i) (h : kc9 T i = 4) (e : whole (i + 1) (t + 1) = none) : one9 T can inner whole term i t = none := by
  rw [one9, if_neg (nwd R (by decide) (by omega)), if_pos ((kc_sg R 1 (by decide)).mp h), e]
  split <;> rfl
theorem one9_p3 {f : List Int} {j u : Nat} (R : R9 T i) (R2 : R9 T j) (h : kc9 T i = 4) (e : whole (i + 1) (t + 1) = some (f, j, u)) (hx : ¬ (kc9 T j = 5 ∧ u < 120)) : one9 T can inner whole term i t = none := by
  rw [one9, if_neg (nwd R (by decide) (by omega)), if_pos ((kc_sg R 1 (by decide)).mp h), e]
  split
  · show (if _ then _ else _) = none
    rw [if_neg (fun q => hx ⟨(kc_sg R2 2 (by decide)).mpr q.1, q.2⟩)]
  · rfl
theorem one9_p {f : List Int} {j u : Nat} (R : R9 T i) (R2 : R9 T j) (hc : can = true ↔ o < 12) (h : kc9 T i = 4) (h1 : t < 120) (h2 : o < 12) (e : whole (i + 1) (t + 1) = some (f, j, u)) (h3 : kc9 T j = 5) (h4 : u < 120) : one9 T can inner whole term i t = some (f, j + 1, u + 1) := by
  rw [one9, if_neg (nwd R (by decide) (by omega)), if_pos ((kc_sg R 1 (by decide)).mp h), if_pos ⟨h1, hc.mpr h2⟩, e]
  show (if _ then _ else _) = _
  rw [if_pos ⟨(kc_sg R2 2 (by decide)).mp h3, h4⟩]
theorem one9_tx (R : R9 T i) (h : kc9 T i = 26 ∨ kc9 T i = 27) (hx : ¬ t < 120) : one9 T can inner whole term i t = none := by
  rw [one9, if_neg (nwd R (by decide) (by omega)), if_neg (nsg R (by decide) (by omega))]
  rcases h with h | h
  · rw [if_pos ((kc_wd R 6 (by decide)).mp h), if_neg hx]
  · rw [if_neg (nwd R (by decide) (by omega)), if_pos ((kc_wd R 7 (by decide)).mp h), if_neg hx]
theorem one9_t (R : R9 T i) (h : kc9 T i = 26 ∨ kc9 T i = 27) (ht : t < 120) : one9 T can inner whole term i t = some ([kc9 T i], i + 1, t + 1) := by
  rw [one9, if_neg (nwd R (by decide) (by omega)), if_neg (nsg R (by decide) (by omega))]
  rcases h with h | h
  · rw [if_pos ((kc_wd R 6 (by decide)).mp h), if_pos ht, h]
  · rw [if_neg (nwd R (by decide) (by omega)), if_pos ((kc_wd R 7 (by decide)).mp h), if_pos ht, h]
theorem one9_cx (R : R9 T i) (h : kc9 T i = 1) (hc : 0 ≤ tcl T (tN T i)) (hx : ¬ t < 120) : one9 T can inner whole term i t = none := by
  rw [one9, if_neg (nwd R (by decide) (by omega)), if_neg (nsg R (by decide) (by omega)), if_neg (nwd R (by decide) (by omega)), if_neg (nwd R (by decide) (by omega)), if_pos ⟨(kc_nm R).mp h, hc⟩, if_neg hx]
theorem one9_c (R : R9 T i) (h : kc9 T i = 1) (hc : 0 ≤ tcl T (tN T i)) (ht : t < 120) : one9 T can inner whole term i t = some ([42 + 64 * tcl T (tN T i)], i + 1, t + 1) := by
  rw [one9, if_neg (nwd R (by decide) (by omega)), if_neg (nsg R (by decide) (by omega)), if_neg (nwd R (by decide) (by omega)), if_neg (nwd R (by decide) (by omega)), if_pos ⟨(kc_nm R).mp h, hc⟩, if_pos ht]
theorem one9_dh (R : R9 T i) (R1 : R9 T (i + 1)) (h : kc9 T i = 2) (h1 : kc9 T (i + 1) = 33) : one9 T can inner whole term i t = (if t + 1 < 120 ∧ 2 ≤ tV T i ∧ tV T i ≤ 12 then (match term (i + 2) (t + 2) with | none => none | some (a, j, u) => some (a ++ [33 + 64 * tV T i], j, u)) else none) := by
  rw [one9, if_neg (nwd R (by decide) (by omega)), if_neg (nsg R (by decide) (by omega)), if_neg (nwd R (by decide) (by omega)), if_neg (nwd R (by decide) (by omega)), if_neg (fun q => by have := (kc_nm R).mpr q.1; omega), if_pos ⟨(kc_nu R).mp h, (kc_wd R1 13 (by decide)).mp h1⟩]
  rfl
theorem one9_dx (R : R9 T i) (R1 : R9 T (i + 1)) (h : kc9 T i = 2) (h1 : kc9 T (i + 1) = 33) (hx : ¬ (t + 1 < 120 ∧ 2 ≤ tV T i ∧ tV T i ≤ 12)) : one9 T can inner whole term i t = none := by
  rw [one9_dh R R1 h h1, if_neg hx]
theorem one9_d2 (R : R9 T i) (R1 : R9 T (i + 1)) (h : kc9 T i = 2) (h1 : kc9 T (i + 1) = 33) (e : term (i + 2) (t + 2) = none) : one9 T can inner whole term i t = none := by
  rw [one9_dh R R1 h h1, e]
  split <;> rfl
theorem one9_d {a : List Int} {j u : Nat} (R : R9 T i) (R1 : R9 T (i + 1)) (h : kc9 T i = 2) (h1 : kc9 T (i + 1) = 33) (h2 : t + 1 < 120 ∧ 2 ≤ tV T i ∧ tV T i ≤ 12) (e : term (i + 2) (t + 2) = some (a, j, u)) : one9 T can inner whole term i t = some (a ++ [33 + 64 * tV T i], j, u) := by
  rw [one9_dh R R1 h h1, if_pos h2, e]
/-- none of the others: a comparison -/
def OTH9 (T : TkE) (i : Nat) : Prop := ¬ kc9 T i = 25 ∧ ¬ kc9 T i = 4 ∧ ¬ kc9 T i = 26 ∧ ¬ kc9 T i = 27 ∧ ¬ (kc9 T i = 1 ∧ 0 ≤ tcl T (tN T i)) ∧ ¬ (kc9 T i = 2 ∧ kc9 T (i + 1) = 33)
theorem one9_oh (R : R9 T i) (R1 : kc9 T i = 2 → R9 T (i + 1)) (h : OTH9 T i) : one9 T can inner whole term i t = (match term i t with | none => none | some (a, j, u) => if tK T j = 5 ∧ isCmp (tV T j) ∧ u < 120 then (match term (j + 1) (u + 1) with | none => none | some (c, k, x) => some (a ++ c ++ [3 + tV T j], k, x)) else none) := by
  obtain ⟨a1, a2, a3, a4, a5, a6⟩ := h
  rw [one9, if_neg (nwd R (by decide) (by omega)), if_neg (nsg R (by decide) (by omega)), if_neg (nwd R (by decide) (by omega)), if_neg (nwd R (by decide) (by omega)), if_neg (fun q => a5 ⟨(kc_nm R).mpr q.1, q.2⟩), if_neg (fun q => by
    have h2 := (kc_nu R).mpr q.1
    exact a6 ⟨h2, (kc_wd (R1 h2) 13 (by decide)).mpr q.2⟩)]
  rfl
theorem one9_o1 (R : R9 T i) (R1 : kc9 T i = 2 → R9 T (i + 1)) (h : OTH9 T i) (e : term i t = none) : one9 T can inner whole term i t = none := by
  rw [one9_oh R R1 h, e]
theorem one9_o2 {a : List Int} {j u : Nat} (R : R9 T i) (R1 : kc9 T i = 2 → R9 T (i + 1)) (R2 : R9 T j) (h : OTH9 T i) (e : term i t = some (a, j, u)) (hx : ¬ ((kc9 T j = 10 ∨ (14 ≤ kc9 T j ∧ kc9 T j ≤ 18)) ∧ u < 120)) : one9 T can inner whole term i t = none := by
  rw [one9_oh R R1 h, e]
  show (if _ then _ else _) = none
  rw [if_neg (fun q => hx ⟨(kc_cm R2).mpr ⟨q.1, q.2.1⟩, q.2.2⟩)]
theorem one9_o3 {a : List Int} {j u : Nat} (R : R9 T i) (R1 : kc9 T i = 2 → R9 T (i + 1)) (h : OTH9 T i) (e : term i t = some (a, j, u)) (e2 : term (j + 1) (u + 1) = none) : one9 T can inner whole term i t = none := by
  rw [one9_oh R R1 h, e]
  show (if _ then _ else _) = none
  rw [e2]
  split <;> rfl
theorem one9_o {a c : List Int} {j u k x : Nat} (R : R9 T i) (R1 : kc9 T i = 2 → R9 T (i + 1)) (R2 : R9 T j) (h : OTH9 T i) (e : term i t = some (a, j, u)) (h1 : kc9 T j = 10 ∨ (14 ≤ kc9 T j ∧ kc9 T j ≤ 18)) (h2 : u < 120) (e2 : term (j + 1) (u + 1) = some (c, k, x)) : one9 T can inner whole term i t = some (a ++ c ++ [kc9 T j], k, x) := by
  have hs := (kc_cm R2).mp h1
  have hv : kc9 T j = 3 + tV T j := (kc_sg R2 (tV T j) (by have := R2.2.2.2 hs.1; omega)).mpr ⟨hs.1, rfl⟩
  rw [one9_oh R R1 h, e]
  show (if _ then _ else _) = _
  rw [if_pos ⟨hs.1, hs.2, h2⟩, e2, hv]
/-- rows of and, of or -/
theorem row9_end {w op : Int} {part : P9} {f : List Int} (R : R9 T i) (hw : 1 ≤ w ∧ w ≤ 14) (h : ¬ kc9 T i = 20 + w) : row9 T w op part f i t = some (f, i, t) := by
  rw [row9, if_neg (nwd R hw h)]
theorem row9_x1 {w op : Int} {part : P9} {f : List Int} (R : R9 T i) (hw : 1 ≤ w ∧ w ≤ 14) (h : kc9 T i = 20 + w) (hx : ¬ t < 120) : row9 T w op part f i t = none := by
  rw [row9, if_pos ((kc_wd R w hw).mp h), if_neg hx]
theorem row9_x2 {w op : Int} {part : P9} {f : List Int} (R : R9 T i) (hw : 1 ≤ w ∧ w ≤ 14) (h : kc9 T i = 20 + w) (e : part (i + 1) (t + 1) = none) : row9 T w op part f i t = none := by
  rw [row9, if_pos ((kc_wd R w hw).mp h), e]
  split <;> rfl
theorem row9_go {w op : Int} {part : P9} {f g : List Int} {j u : Nat} (R : R9 T i) (hw : 1 ≤ w ∧ w ≤ 14) (h : kc9 T i = 20 + w) (ht : t < 120) (e : part (i + 1) (t + 1) = some (g, j, u)) (h1 : t < u) (h2 : u ≤ 120) : row9 T w op part (f ++ g ++ [op]) j u = row9 T w op part f i t := by
  rw [row9.eq_1 T w op part f i t, if_pos ((kc_wd R w hw).mp h), if_pos ht, e]
  show _ = (if _ then _ else _)
  rw [if_pos ⟨h1, h2⟩]
end
/-- what is asked of the parts of a formula -/
def XC9 (Mm : MT) (T : TkE) (m : Nat) (p : P9) (o sl : Int) (nd : Nat) : Prop := ∀ (G : kG9) {d : Nat}, nd ≤ d → ∀ (σ : St) (i t : Nat) (l : List Int), RL T m i t o sl l.length σ → STP9 sl l σ → l.length ≤ 4 * t → (gi σ 18 5).toInt ≤ 2000 → TOKS T m σ → ENV9 T σ → Ct G Mm d [.ref 30] σ (fun r σ' => Fm [10, 11, 30] [] σ σ' ∧ (RES (p i t) T m o sl l σ') ∧ True)
theorem XC9.mono {Mm : MT} {T : TkE} {m : Nat} {p : P9} {o sl : Int} {nd nd' : Nat} (h : XC9 Mm T m p o sl nd) (hn : nd ≤ nd') : XC9 Mm T m p o sl nd' := fun G {_} hd => h G (Nat.le_trans hn hd)
/-- the loop over what is joined by and, by or -/
def LI9 (T : TkE) (w op : Int) (part p : P9) (m i t : Nat) (o sl : Int) (l : List Int) (k : Int) (σ : St) : Prop := (∃ i9 t9 s9, RL T m i9 t9 o sl (l ++ s9).length σ ∧ STP9 sl (l ++ s9) σ ∧ row9 T w op part s9 i9 t9 = p i t ∧ t < t9 ∧ s9.length + 1 ≤ 4 * (t9 - t) ∧ k < t9) ∨ (p i t = none ∧ RD σ)
theorem bth9_0 {T : TkE} {one : P9} {i t : Nat} (e : one i t = none) : bth9 T one i t = none := by rw [bth9, e]
theorem bth9_1 {T : TkE} {one : P9} {i t j u : Nat} {f : List Int} (e : one i t = some (f, j, u)) : row9 T 3 23 one f j u = bth9 T one i t := by rw [bth9, e]
theorem sid9_0 {T : TkE} {one : P9} {i t : Nat} (e : bth9 T one i t = none) : sid9 T one i t = none := by rw [sid9, e]
theorem sid9_1 {T : TkE} {one : P9} {i t j u : Nat} {f : List Int} (e : bth9 T one i t = some (f, j, u)) : row9 T 4 24 (bth9 T one) f j u = sid9 T one i t := by rw [sid9, e]
theorem frm9_0 {T : TkE} {one : P9} {i t : Nat} (e : sid9 T one i t = none) : frm9 T one i t = none := by rw [frm9, e]
theorem frm9_j {T : TkE} {j : Nat} (R : R9 T j) (h : kc9 T j = 19 ∨ kc9 T j = 20) : tsg T j 16 ∨ tsg T j 17 := h.imp (fun g => (kc_sg R 16 (by decide)).mp g) (fun g => (kc_sg R 17 (by decide)).mp g)
theorem frm9_x {T : TkE} {one : P9} {i t j u : Nat} {f : List Int} (R : R9 T j) (e : sid9 T one i t = some (f, j, u)) (h : kc9 T j = 19 ∨ kc9 T j = 20) (hx : ¬ u < 120) : frm9 T one i t = none := by
  rw [frm9, e]
  show (if _ then _ else _) = _
  rw [if_pos (frm9_j R h), if_neg hx]
theorem frm9_2 {T : TkE} {one : P9} {i t j u : Nat} {f : List Int} (R : R9 T j) (e : sid9 T one i t = some (f, j, u)) (h : kc9 T j = 19 ∨ kc9 T j = 20) (e2 : sid9 T one (j + 1) (u + 1) = none) : frm9 T one i t = none := by
  rw [frm9, e]
  show (if _ then _ else _) = _
  rw [if_pos (frm9_j R h), e2]
  split <;> rfl
theorem frm9_3 {T : TkE} {one : P9} {i t j u k x : Nat} {f g : List Int} (R : R9 T j) (e : sid9 T one i t = some (f, j, u)) (h : kc9 T j = 19 ∨ kc9 T j = 20) (hu : u < 120) (e2 : sid9 T one (j + 1) (u + 1) = some (g, k, x)) : frm9 T one i t = some (f ++ g ++ [kc9 T j], k, x) := by
  have hv : kc9 T j = 3 + tV T j := by
    rcases frm9_j R h with c | c
    · have := (kc_sg R 16 (by decide)).mpr c; rw [this, c.2] <;> rfl
    · have := (kc_sg R 17 (by decide)).mpr c; rw [this, c.2] <;> rfl
  rw [frm9, e]
  show (if _ then _ else _) = _
  rw [if_pos (frm9_j R h), if_pos hu, e2, hv]
theorem frm9_4 {T : TkE} {one : P9} {i t j u : Nat} {f : List Int} (R : R9 T j) (e : sid9 T one i t = some (f, j, u)) (h : ¬ kc9 T j = 19) (h2 : ¬ kc9 T j = 20) : frm9 T one i t = some (f, j, u) := by
  rw [frm9, e]
  show (if _ then _ else _) = _
  rw [if_neg (fun q => q.elim (fun g => h ((kc_sg R 16 (by decide)).mpr g)) (fun g => h2 ((kc_sg R 17 (by decide)).mpr g)))]
theorem row9_lt {T : TkE} {w op : Int} {part : P9} (ho : On9 part) (h : Lt9 part) : ∀ m s i t r j u, 121 - t = m → row9 T w op part s i t = some (r, j, u) → t ≤ 120 → ∀ t0, t0 ≤ t → s.length + 1 ≤ 4 * (t - t0) → r.length + 1 ≤ 4 * (u - t0) := by
  intro m
  induction m using Nat.strongRecOn with
  | _ m ih =>
    intro s i t r j u hm e ht t0 h0 hs
    rw [row9] at e
    split at e
    · split at e
      · split at e
        · exact absurd e (by simp)
        · rename_i p j1 u1 e1
          have a1 := ho _ _ _ _ _ e1 (by omega)
          have b1 := h _ _ _ _ _ e1 (by omega)
          split at e
          · refine ih (121 - u1) (by omega) _ _ _ _ _ _ rfl e (by omega) t0 (by omega) ?_
            simp only [List.length_append, List.length_cons, List.length_nil]
            omega
          · exact absurd e (by simp)
      · exact absurd e (by simp)
    · simp only [Option.some.injEq, Prod.mk.injEq] at e
      obtain ⟨rfl, rfl, rfl⟩ := e
      exact hs
theorem bth9_lt {T : TkE} {one : P9} (ho : On9 one) (h : Lt9 one) : Lt9 (bth9 T one) := fun i t r j u e ht => by
  unfold bth9 at e
  split at e
  · exact absurd e (by simp)
  · rename_i f j1 u1 e1
    have a1 := ho _ _ _ _ _ e1 ht
    have b1 := h _ _ _ _ _ e1 ht
    exact row9_lt ho h _ _ _ _ _ _ _ rfl e (by omega) t (by omega) b1
theorem sid9_lt {T : TkE} {one : P9} (ho : On9 one) (h : Lt9 one) : Lt9 (sid9 T one) := fun i t r j u e ht => by
  unfold sid9 at e
  split at e
  · exact absurd e (by simp)
  · rename_i f j1 u1 e1
    have a1 := bth9_on ho _ _ _ _ _ e1 ht
    have b1 := bth9_lt ho h _ _ _ _ _ e1 ht
    exact row9_lt (bth9_on ho) (bth9_lt ho h) _ _ _ _ _ _ _ rfl e (by omega) t (by omega) b1
theorem frm9_lt {T : TkE} {one : P9} (ho : On9 one) (h : Lt9 one) : Lt9 (frm9 T one) := fun i t r j u e ht => by
  unfold frm9 at e
  split at e
  · exact absurd e (by simp)
  · rename_i f j1 u1 e1
    have a1 := sid9_on ho _ _ _ _ _ e1 ht
    have b1 := sid9_lt ho h _ _ _ _ _ e1 ht
    split at e
    · split at e
      · split at e
        · exact absurd e (by simp)
        · rename_i g j2 u2 e2
          have a2 := sid9_on ho _ _ _ _ _ e2 (by omega)
          have b2 := sid9_lt ho h _ _ _ _ _ e2 (by omega)
          simp only [Option.some.injEq, Prod.mk.injEq] at e
          obtain ⟨rfl, rfl, rfl⟩ := e
          simp only [List.length_append, List.length_cons, List.length_nil]; omega
      · exact absurd e (by simp)
    · simp only [Option.some.injEq, Prod.mk.injEq] at e
      obtain ⟨rfl, rfl, rfl⟩ := e
      exact b1
theorem one9_lt {T : TkE} {can : Bool} {inner whole : P9} {term : P9} (o1 : On9 inner) (h1 : Lt9 inner) (o2 : On9 whole) (h2 : Lt9 whole) (o3 : On9 term) (h3 : Lt9 term) : Lt9 (one9 T can inner whole term) := fun i t r j u e ht => by
  unfold one9 at e
  split at e
  · split at e
    · split at e
      · exact absurd e (by simp)
      · rename_i f j1 u1 e1
        have a1 := o1 _ _ _ _ _ e1 (by omega)
        have b1 := h1 _ _ _ _ _ e1 (by omega)
        simp only [Option.some.injEq, Prod.mk.injEq] at e
        obtain ⟨rfl, rfl, rfl⟩ := e
        simp only [List.length_append, List.length_cons, List.length_nil]; omega
    · exact absurd e (by simp)
  · split at e
    · split at e
      · split at e
        · exact absurd e (by simp)
        · rename_i f j1 u1 e1
          have a1 := o2 _ _ _ _ _ e1 (by omega)
          have b1 := h2 _ _ _ _ _ e1 (by omega)
          split at e
          · simp only [Option.some.injEq, Prod.mk.injEq] at e
            obtain ⟨rfl, rfl, rfl⟩ := e
            omega
          · exact absurd e (by simp)
      · exact absurd e (by simp)
    · split at e
      · split at e
        · simp only [Option.some.injEq, Prod.mk.injEq] at e
          obtain ⟨rfl, rfl, rfl⟩ := e
          simp only [List.length_cons, List.length_nil]; omega
        · exact absurd e (by simp)
      · split at e
        · split at e
          · simp only [Option.some.injEq, Prod.mk.injEq] at e
            obtain ⟨rfl, rfl, rfl⟩ := e
            simp only [List.length_cons, List.length_nil]; omega
          · exact absurd e (by simp)
        · split at e
          · split at e
            · simp only [Option.some.injEq, Prod.mk.injEq] at e
              obtain ⟨rfl, rfl, rfl⟩ := e
              simp only [List.length_cons, List.length_nil]; omega
            · exact absurd e (by simp)
          · split at e
            · split at e
              · split at e
                · exact absurd e (by simp)
                · rename_i a j1 u1 e1
                  have a1 := o3 _ _ _ _ _ e1 (by omega)
                  have b1 := h3 _ _ _ _ _ e1 (by omega)
                  simp only [Option.some.injEq, Prod.mk.injEq] at e
                  obtain ⟨rfl, rfl, rfl⟩ := e
                  simp only [List.length_append, List.length_cons, List.length_nil]; omega
              · exact absurd e (by simp)
            · split at e
              · exact absurd e (by simp)
              · rename_i a j1 u1 e1
                have a1 := o3 _ _ _ _ _ e1 (by omega)
                have b1 := h3 _ _ _ _ _ e1 (by omega)
                split at e
                · split at e
                  · exact absurd e (by simp)
                  · rename_i c j2 u2 e2
                    have a2 := o3 _ _ _ _ _ e2 (by omega)
                    have b2 := h3 _ _ _ _ _ e2 (by omega)
                    simp only [Option.some.injEq, Prod.mk.injEq] at e
                    obtain ⟨rfl, rfl, rfl⟩ := e
                    simp only [List.length_append, List.length_cons, List.length_nil]; omega
                · exact absurd e (by simp)
theorem oneD_lt (T : TkE) : ∀ d, Lt9 (oneD T d)
  | 0 => one9_lt on9_none lt9_none on9_none lt9_none (trmD_on T 0) (trmD_lt T 0)
  | d + 1 => one9_lt (oneD_on T d) (oneD_lt T d) (frm9_on (oneD_on T d)) (frm9_lt (oneD_on T d) (oneD_lt T d)) (trmD_on T (d + 1)) (trmD_lt T (d + 1))
set_option maxHeartbeats 4000000 in
theorem sp_X11_isComparison_at_F (G : kG9) {d : Nat} (hd : 0 ≤ d) (σ : St) (a0 : Int32) : Ct G M_X11_isComparison d [.int a0] σ (fun r σ' => ∃ x : Bool, r = some (.int (bI x)) ∧ σ = σ' ∧ (x = true ↔ a0.toInt = 10 ∨ (14 ≤ a0.toInt ∧ a0.toInt ≤ 18)) ∧ True) := by
  refine wa_start (by decide) rfl (Nat.le_of_ble_eq_true rfl) (lv := [(0, .int a0)]) rfl o_X11_isComparison_0 rfl ?_
  have ua0 := Int32.toInt_lt a0
  have wa0 := Int32.le_toInt a0
  refine wa_iload_n (i := 0) rfl rfl ?_
  refine wa_bipush (v := 10) (by decide) ?_
  refine wa_icmp_eq o_X11_isComparison_18 (by decide) (fun h1 => ?_) (fun h1 => ?_)
  · refine wa_iconst (v := 1) (by decide) ?_
    refine wa_goto o_X11_isComparison_23 (by decide) ?_
    refine wa_zreturn true (rfl) rfl rfl ?_
    exact ⟨_, rfl, rfl, (by ((try simp only [vp_in_iff, Int32.lt_iff_toInt_lt, Int32.le_iff_toInt_le, ← Int32.toInt_inj, Int32.reduceToInt, n_1, n_2, n_8, Int32.toNatClampNeg, Int64.lt_iff_toInt_lt, Int64.le_iff_toInt_le, ← Int64.toInt_inj, Int64.reduceToInt, Int32.toInt_toInt64, lg_cmp_ge, lg_cmp_le, lg_cmp_gt, lg_cmp_lt, lg_cmp_eq, Bool.false_eq_true, Bool.true_eq_false, reduceCtorEq, false_iff, true_iff, iff_true, iff_false, and_true, true_and, and_false, false_and, reduceIte, ite_true, ite_false, eq_self] at *)) <;> omega), trivial⟩
  · refine wa_iload_n (i := 0) rfl rfl ?_
    refine wa_bipush (v := 14) (by decide) ?_
    refine wa_icmp_lt o_X11_isComparison_22 (by decide) (fun h2 => ?_) (fun h2 => ?_)
    · refine wa_iconst (v := 0) (by decide) ?_
      refine wa_zreturn false (rfl) rfl rfl ?_
      exact ⟨_, rfl, rfl, (by ((try simp only [vp_in_iff, Int32.lt_iff_toInt_lt, Int32.le_iff_toInt_le, ← Int32.toInt_inj, Int32.reduceToInt, n_1, n_2, n_8, Int32.toNatClampNeg, Int64.lt_iff_toInt_lt, Int64.le_iff_toInt_le, ← Int64.toInt_inj, Int64.reduceToInt, Int32.toInt_toInt64, lg_cmp_ge, lg_cmp_le, lg_cmp_gt, lg_cmp_lt, lg_cmp_eq, Bool.false_eq_true, Bool.true_eq_false, reduceCtorEq, false_iff, true_iff, iff_true, iff_false, and_true, true_and, and_false, false_and, reduceIte, ite_true, ite_false, eq_self] at *)) <;> omega), trivial⟩
    · refine wa_iload_n (i := 0) rfl rfl ?_
      refine wa_bipush (v := 18) (by decide) ?_
      refine wa_icmp_gt o_X11_isComparison_22 (by decide) (fun h3 => ?_) (fun h3 => ?_)
      · refine wa_iconst (v := 0) (by decide) ?_
        refine wa_zreturn false (rfl) rfl rfl ?_
        exact ⟨_, rfl, rfl, (by ((try simp only [vp_in_iff, Int32.lt_iff_toInt_lt, Int32.le_iff_toInt_le, ← Int32.toInt_inj, Int32.reduceToInt, n_1, n_2, n_8, Int32.toNatClampNeg, Int64.lt_iff_toInt_lt, Int64.le_iff_toInt_le, ← Int64.toInt_inj, Int64.reduceToInt, Int32.toInt_toInt64, lg_cmp_ge, lg_cmp_le, lg_cmp_gt, lg_cmp_lt, lg_cmp_eq, Bool.false_eq_true, Bool.true_eq_false, reduceCtorEq, false_iff, true_iff, iff_true, iff_false, and_true, true_and, and_false, false_and, reduceIte, ite_true, ite_false, eq_self] at *)) <;> omega), trivial⟩
      · refine wa_iconst (v := 1) (by decide) ?_
        refine wa_goto o_X11_isComparison_23 (by decide) ?_
        refine wa_zreturn true (rfl) rfl rfl ?_
        exact ⟨_, rfl, rfl, (by ((try simp only [vp_in_iff, Int32.lt_iff_toInt_lt, Int32.le_iff_toInt_le, ← Int32.toInt_inj, Int32.reduceToInt, n_1, n_2, n_8, Int32.toNatClampNeg, Int64.lt_iff_toInt_lt, Int64.le_iff_toInt_le, ← Int64.toInt_inj, Int64.reduceToInt, Int32.toInt_toInt64, lg_cmp_ge, lg_cmp_le, lg_cmp_gt, lg_cmp_lt, lg_cmp_eq, Bool.false_eq_true, Bool.true_eq_false, reduceCtorEq, false_iff, true_iff, iff_true, iff_false, and_true, true_and, and_false, false_and, reduceIte, ite_true, ite_false, eq_self] at *)) <;> omega), trivial⟩
set_option maxHeartbeats 4000000 in
theorem sp_X8_one_at_D (G : kG9) {d : Nat} (hd : 4 ≤ d) (σ : St) (r1 : (gi σ 18 5).toInt ≤ 2000) (r2 : (gi σ 30 7).toInt = 44) (r3 : ¬ (gi σ 30 3).toInt = 0) : Ct G M_X8_one d [.ref 30] σ (fun r σ' => Fm [10, 11, 30] [] σ σ' ∧ ((gi σ' 30 7).toInt = 44) ∧ (¬ (gi σ' 30 3).toInt = 0) ∧ True) := by
  refine wa_start (by decide) rfl (Nat.le_of_ble_eq_true rfl) (lv := [(0, .ref 30)]) rfl o_X8_one_0 rfl ?_
  refine wa_aload_n (i := 0) rfl rfl ?_
  refine wa_geti ck_8 fl_8_39 ly_30 ?_
  refine wa_istore_nD (lv' := [(1, .int (gi σ 30 7)), (0, .ref 30)]) (i := 1) rfl (by decide) rfl ?_
  refine wa_iload_n (i := 1) rfl rfl ?_
  refine wa_iconst (v := 1) (by decide) ?_
  refine wa_icmp_ne o_X8_one_31 (by decide) (fun h1 => ?_) (fun h1 => ?_)
  · refine wa_iconst (v := (-1)) (by decide) ?_
    refine wa_istore_nD (lv' := [(2, .int (-1)), (1, .int (gi σ 30 7)), (0, .ref 30)]) (i := 2) rfl (by decide) rfl ?_
    refine wa_iload_n (i := 1) rfl rfl ?_
    refine wa_bipush (v := 25) (by decide) ?_
    refine wa_icmp_ne o_X8_one_70 (by decide) (fun h2 => ?_) (fun h2 => ?_)
    · refine wa_iload_n (i := 1) rfl rfl ?_
      refine wa_iconst (v := 4) (by decide) ?_
      refine wa_icmp_ne o_X8_one_94 (by decide) (fun h3 => ?_) (fun h3 => ?_)
      · refine wa_iload_n (i := 1) rfl rfl ?_
        refine wa_bipush (v := 26) (by decide) ?_
        refine wa_icmp_eq o_X8_one_106 (by decide) (fun h4 => ?_) (fun h4 => ?_)
        · (exfalso; ((try simp only [vp_in_iff, Int32.lt_iff_toInt_lt, Int32.le_iff_toInt_le, ← Int32.toInt_inj, Int32.reduceToInt, n_1, n_2, n_8, Int32.toNatClampNeg, Int64.lt_iff_toInt_lt, Int64.le_iff_toInt_le, ← Int64.toInt_inj, Int64.reduceToInt, Int32.toInt_toInt64, lg_cmp_ge, lg_cmp_le, lg_cmp_gt, lg_cmp_lt, lg_cmp_eq, Bool.false_eq_true, Bool.true_eq_false, reduceCtorEq, false_iff, true_iff, iff_true, iff_false, and_true, true_and, and_false, false_and, reduceIte, ite_true, ite_false, eq_self] at *)) <;> omega)
        · refine wa_iload_n (i := 1) rfl rfl ?_
          refine wa_bipush (v := 27) (by decide) ?_
          refine wa_icmp_ne o_X8_one_120 (by decide) (fun h5 => ?_) (fun h5 => ?_)
          · refine wa_iload_n (i := 2) rfl rfl ?_
            refine wa_iconst (v := (-1)) (by decide) ?_
            refine wa_icmp_eq o_X8_one_151 (by decide) (fun h6 => ?_) (fun h6 => ?_)
            · refine wa_iload_n (i := 1) rfl rfl ?_
              refine wa_iconst (v := 2) (by decide) ?_
              refine wa_icmp_ne o_X8_one_237 (by decide) (fun h7 => ?_) (fun h7 => ?_)
              · refine wa_aload_n (i := 0) rfl rfl ?_
                refine wa_Vv (d9 := d - 1) [] [] (sp_X8_term_at_D G (d := d - 1) (by omega) σ  (by first | assumption | exact Or.inl rfl | exact Or.inr rfl | (((try simp only [vp_in_iff, Int32.lt_iff_toInt_lt, Int32.le_iff_toInt_le, ← Int32.toInt_inj, Int32.reduceToInt, n_1, n_2, n_8, Int32.toNatClampNeg, Int64.lt_iff_toInt_lt, Int64.le_iff_toInt_le, ← Int64.toInt_inj, Int64.reduceToInt, Int32.toInt_toInt64, lg_cmp_ge, lg_cmp_le, lg_cmp_gt, lg_cmp_lt, lg_cmp_eq, Bool.false_eq_true, Bool.true_eq_false, reduceCtorEq, false_iff, true_iff, iff_true, iff_false, and_true, true_and, and_false, false_and, reduceIte, ite_true, ite_false, eq_self] at *)) <;> omega)) (by first | assumption | exact Or.inl rfl | exact Or.inr rfl | (((try simp only [vp_in_iff, Int32.lt_iff_toInt_lt, Int32.le_iff_toInt_le, ← Int32.toInt_inj, Int32.reduceToInt, n_1, n_2, n_8, Int32.toNatClampNeg, Int64.lt_iff_toInt_lt, Int64.le_iff_toInt_le, ← Int64.toInt_inj, Int64.reduceToInt, Int32.toInt_toInt64, lg_cmp_ge, lg_cmp_le, lg_cmp_gt, lg_cmp_lt, lg_cmp_eq, Bool.false_eq_true, Bool.true_eq_false, reduceCtorEq, false_iff, true_iff, iff_true, iff_false, and_true, true_and, and_false, false_and, reduceIte, ite_true, ite_false, eq_self] at *)) <;> omega)) (by first | assumption | exact Or.inl rfl | exact Or.inr rfl | (((try simp only [vp_in_iff, Int32.lt_iff_toInt_lt, Int32.le_iff_toInt_le, ← Int32.toInt_inj, Int32.reduceToInt, n_1, n_2, n_8, Int32.toNatClampNeg, Int64.lt_iff_toInt_lt, Int64.le_iff_toInt_le, ← Int64.toInt_inj, Int64.reduceToInt, Int32.toInt_toInt64, lg_cmp_ge, lg_cmp_le, lg_cmp_gt, lg_cmp_lt, lg_cmp_eq, Bool.false_eq_true, Bool.true_eq_false, reduceCtorEq, false_iff, true_iff, iff_true, iff_false, and_true, true_and, and_false, false_and, reduceIte, ite_true, ite_false, eq_self] at *)) <;> omega))) (rfl) rfl rfl (zr (by omega)) mk_X8_term ly_30 ml_8_176 (Nat.le_of_ble_eq_true rfl) (fun s8 hs8 => ?_)
                obtain ⟨fs8, cx9_1, cx9_2, -⟩ := hs8
                have Fs8 : Fm [10, 11, 30] [] σ s8 := Fm.tr (Fm.rf [10, 11, 30] [] σ) (Fm.wd fs8 rfl rfl)
                refine wa_aload_n (i := 0) rfl rfl ?_
                refine wa_geti ck_8 fl_8_39 ly_30 ?_
                refine wa_istore_nD (lv' := [(3, .int (gi s8 30 7)), (2, .int (-1)), (1, .int (gi σ 30 7)), (0, .ref 30)]) (i := 3) rfl (by decide) rfl ?_
                refine wa_aload_n (i := 0) rfl rfl ?_
                refine wa_iload_n (i := 3) rfl rfl ?_
                refine wa_Si (d9 := d - 1) [.int _] [.ref 30] (sp_X11_isComparison_at_F G (d := d - 1) (by omega) s8 _) (rfl) rfl rfl (zr (by omega)) mk_X11_isComparison ml_8_215 (Nat.le_of_ble_eq_true rfl) (fun x11 s10 hs10 => ?_)
                obtain ⟨bx11, ex11, zs10, cx11_1, -⟩ := pB hs10
                subst ex11
                subst zs10
                refine wa_if_eq o_X8_one_258 (by decide) (fun h12 => ?_) (fun h12 => ?_)
                · replace h12 := bI_f (b := bx11) (rfl) h12
                  have uh12_0 := iff_f cx11_1 h12
                  refine wa_bipush (v := 10) (by decide) ?_
                  refine wa_iload_n (i := 3) rfl rfl ?_
                  refine wa_Vv (d9 := d - 1) [.int _, .int _] [] (sp_X8_accept_at_D G (d := d - 1) (by omega) s8 _ _ (by ((try simp only [vp_in_iff, Int32.lt_iff_toInt_lt, Int32.le_iff_toInt_le, ← Int32.toInt_inj, Int32.reduceToInt, n_1, n_2, n_8, Int32.toNatClampNeg, Int64.lt_iff_toInt_lt, Int64.le_iff_toInt_le, ← Int64.toInt_inj, Int64.reduceToInt, Int32.toInt_toInt64, lg_cmp_ge, lg_cmp_le, lg_cmp_gt, lg_cmp_lt, lg_cmp_eq, Bool.false_eq_true, Bool.true_eq_false, reduceCtorEq, false_iff, true_iff, iff_true, iff_false, and_true, true_and, and_false, false_and, reduceIte, ite_true, ite_false, eq_self] at *)) <;> omega) (by rw [Fm.gi fs8 (q := 18) (k := 5) rfl rfl]; first | assumption | exact Or.inl rfl | exact Or.inr rfl | (((try simp only [vp_in_iff, Int32.lt_iff_toInt_lt, Int32.le_iff_toInt_le, ← Int32.toInt_inj, Int32.reduceToInt, n_1, n_2, n_8, Int32.toNatClampNeg, Int64.lt_iff_toInt_lt, Int64.le_iff_toInt_le, ← Int64.toInt_inj, Int64.reduceToInt, Int32.toInt_toInt64, lg_cmp_ge, lg_cmp_le, lg_cmp_gt, lg_cmp_lt, lg_cmp_eq, Bool.false_eq_true, Bool.true_eq_false, reduceCtorEq, false_iff, true_iff, iff_true, iff_false, and_true, true_and, and_false, false_and, reduceIte, ite_true, ite_false, eq_self] at *)) <;> omega)) (by first | assumption | exact Or.inl rfl | exact Or.inr rfl | (((try simp only [vp_in_iff, Int32.lt_iff_toInt_lt, Int32.le_iff_toInt_le, ← Int32.toInt_inj, Int32.reduceToInt, n_1, n_2, n_8, Int32.toNatClampNeg, Int64.lt_iff_toInt_lt, Int64.le_iff_toInt_le, ← Int64.toInt_inj, Int64.reduceToInt, Int32.toInt_toInt64, lg_cmp_ge, lg_cmp_le, lg_cmp_gt, lg_cmp_lt, lg_cmp_eq, Bool.false_eq_true, Bool.true_eq_false, reduceCtorEq, false_iff, true_iff, iff_true, iff_false, and_true, true_and, and_false, false_and, reduceIte, ite_true, ite_false, eq_self] at *)) <;> omega)) (by first | assumption | exact Or.inl rfl | exact Or.inr rfl | (((try simp only [vp_in_iff, Int32.lt_iff_toInt_lt, Int32.le_iff_toInt_le, ← Int32.toInt_inj, Int32.reduceToInt, n_1, n_2, n_8, Int32.toNatClampNeg, Int64.lt_iff_toInt_lt, Int64.le_iff_toInt_le, ← Int64.toInt_inj, Int64.reduceToInt, Int32.toInt_toInt64, lg_cmp_ge, lg_cmp_le, lg_cmp_gt, lg_cmp_lt, lg_cmp_eq, Bool.false_eq_true, Bool.true_eq_false, reduceCtorEq, false_iff, true_iff, iff_true, iff_false, and_true, true_and, and_false, false_and, reduceIte, ite_true, ite_false, eq_self] at *)) <;> omega))) (rfl) rfl rfl (zr (by omega)) mk_X8_accept ly_30 ml_8_191 (Nat.le_of_ble_eq_true rfl) (fun s13 hs13 => ?_)
                  obtain ⟨fs13, cx14_1, cx14_2, -⟩ := hs13
                  have Fs13 : Fm [10, 11, 30] [] σ s13 := Fm.tr Fs8 (Fm.wd fs13 rfl rfl)
                  refine wa_aload_n (i := 0) rfl rfl ?_
                  refine wa_Vv (d9 := d - 1) [] [] (sp_X8_term_at_D G (d := d - 1) (by omega) s13  (by rw [(Fm.gi fs13 (q := 18) (k := 5) rfl rfl).trans (Fm.gi fs8 (q := 18) (k := 5) rfl rfl)]; first | assumption | exact Or.inl rfl | exact Or.inr rfl | (((try simp only [vp_in_iff, Int32.lt_iff_toInt_lt, Int32.le_iff_toInt_le, ← Int32.toInt_inj, Int32.reduceToInt, n_1, n_2, n_8, Int32.toNatClampNeg, Int64.lt_iff_toInt_lt, Int64.le_iff_toInt_le, ← Int64.toInt_inj, Int64.reduceToInt, Int32.toInt_toInt64, lg_cmp_ge, lg_cmp_le, lg_cmp_gt, lg_cmp_lt, lg_cmp_eq, Bool.false_eq_true, Bool.true_eq_false, reduceCtorEq, false_iff, true_iff, iff_true, iff_false, and_true, true_and, and_false, false_and, reduceIte, ite_true, ite_false, eq_self] at *)) <;> omega)) (by first | assumption | exact Or.inl rfl | exact Or.inr rfl | (((try simp only [vp_in_iff, Int32.lt_iff_toInt_lt, Int32.le_iff_toInt_le, ← Int32.toInt_inj, Int32.reduceToInt, n_1, n_2, n_8, Int32.toNatClampNeg, Int64.lt_iff_toInt_lt, Int64.le_iff_toInt_le, ← Int64.toInt_inj, Int64.reduceToInt, Int32.toInt_toInt64, lg_cmp_ge, lg_cmp_le, lg_cmp_gt, lg_cmp_lt, lg_cmp_eq, Bool.false_eq_true, Bool.true_eq_false, reduceCtorEq, false_iff, true_iff, iff_true, iff_false, and_true, true_and, and_false, false_and, reduceIte, ite_true, ite_false, eq_self] at *)) <;> omega)) (by first | assumption | exact Or.inl rfl | exact Or.inr rfl | (((try simp only [vp_in_iff, Int32.lt_iff_toInt_lt, Int32.le_iff_toInt_le, ← Int32.toInt_inj, Int32.reduceToInt, n_1, n_2, n_8, Int32.toNatClampNeg, Int64.lt_iff_toInt_lt, Int64.le_iff_toInt_le, ← Int64.toInt_inj, Int64.reduceToInt, Int32.toInt_toInt64, lg_cmp_ge, lg_cmp_le, lg_cmp_gt, lg_cmp_lt, lg_cmp_eq, Bool.false_eq_true, Bool.true_eq_false, reduceCtorEq, false_iff, true_iff, iff_true, iff_false, and_true, true_and, and_false, false_and, reduceIte, ite_true, ite_false, eq_self] at *)) <;> omega))) (rfl) rfl rfl (zr (by omega)) mk_X8_term ly_30 ml_8_176 (Nat.le_of_ble_eq_true rfl) (fun s15 hs15 => ?_)
                  obtain ⟨fs15, cx16_1, cx16_2, -⟩ := hs15
                  have Fs15 : Fm [10, 11, 30] [] σ s15 := Fm.tr Fs13 (Fm.wd fs15 rfl rfl)
                  refine wa_aload_n (i := 0) rfl rfl ?_
                  refine wa_iload_n (i := 3) rfl rfl ?_
                  refine wa_bipush (v := 63) (by decide) ?_
                  refine wa_iand ?_
                  refine wa_top (fun v17 hv17 => ?_)
                  first | (refine i_andK hv17 ?_ (fun tv17 => ?_); (((try simp only [vp_in_iff, Int32.lt_iff_toInt_lt, Int32.le_iff_toInt_le, ← Int32.toInt_inj, Int32.reduceToInt, n_1, n_2, n_8, Int32.toNatClampNeg, Int64.lt_iff_toInt_lt, Int64.le_iff_toInt_le, ← Int64.toInt_inj, Int64.reduceToInt, Int32.toInt_toInt64, lg_cmp_ge, lg_cmp_le, lg_cmp_gt, lg_cmp_lt, lg_cmp_eq, Bool.false_eq_true, Bool.true_eq_false, reduceCtorEq, false_iff, true_iff, iff_true, iff_false, and_true, true_and, and_false, false_and, reduceIte, ite_true, ite_false, eq_self] at *)) <;> omega)) | skip
                  clear hv17
                  refine wa_Vv (d9 := d - 1) [.int _] [] (sp_X8_step_at_D G (d := d - 1) (by omega) s15 _ (by first | assumption | exact Or.inl rfl | exact Or.inr rfl | (((try simp only [vp_in_iff, Int32.lt_iff_toInt_lt, Int32.le_iff_toInt_le, ← Int32.toInt_inj, Int32.reduceToInt, n_1, n_2, n_8, Int32.toNatClampNeg, Int64.lt_iff_toInt_lt, Int64.le_iff_toInt_le, ← Int64.toInt_inj, Int64.reduceToInt, Int32.toInt_toInt64, lg_cmp_ge, lg_cmp_le, lg_cmp_gt, lg_cmp_lt, lg_cmp_eq, Bool.false_eq_true, Bool.true_eq_false, reduceCtorEq, false_iff, true_iff, iff_true, iff_false, and_true, true_and, and_false, false_and, reduceIte, ite_true, ite_false, eq_self] at *)) <;> omega)) (by first | assumption | exact Or.inl rfl | exact Or.inr rfl | (((try simp only [vp_in_iff, Int32.lt_iff_toInt_lt, Int32.le_iff_toInt_le, ← Int32.toInt_inj, Int32.reduceToInt, n_1, n_2, n_8, Int32.toNatClampNeg, Int64.lt_iff_toInt_lt, Int64.le_iff_toInt_le, ← Int64.toInt_inj, Int64.reduceToInt, Int32.toInt_toInt64, lg_cmp_ge, lg_cmp_le, lg_cmp_gt, lg_cmp_lt, lg_cmp_eq, Bool.false_eq_true, Bool.true_eq_false, reduceCtorEq, false_iff, true_iff, iff_true, iff_false, and_true, true_and, and_false, false_and, reduceIte, ite_true, ite_false, eq_self] at *)) <;> omega))) (rfl) rfl rfl (zr (by omega)) mk_X8_step ly_30 ml_8_194 (Nat.le_of_ble_eq_true rfl) (fun s18 hs18 => ?_)
                  obtain ⟨fs18, cx19_1, cx19_2, -⟩ := hs18
                  have Fs18 : Fm [10, 11, 30] [] σ s18 := Fm.tr Fs15 (Fm.wd fs18 rfl rfl)
                  refine wa_return (st := []) rfl rfl ?_
                  exact ⟨Fs18, (by first | assumption | (((try simp only [vp_in_iff, Int32.lt_iff_toInt_lt, Int32.le_iff_toInt_le, ← Int32.toInt_inj, Int32.reduceToInt, n_1, n_2, n_8, Int32.toNatClampNeg, Int64.lt_iff_toInt_lt, Int64.le_iff_toInt_le, ← Int64.toInt_inj, Int64.reduceToInt, Int32.toInt_toInt64, lg_cmp_ge, lg_cmp_le, lg_cmp_gt, lg_cmp_lt, lg_cmp_eq, Bool.false_eq_true, Bool.true_eq_false, reduceCtorEq, false_iff, true_iff, iff_true, iff_false, and_true, true_and, and_false, false_and, reduceIte, ite_true, ite_false, eq_self] at *)) <;> omega)), (by first | assumption | (((try simp only [vp_in_iff, Int32.lt_iff_toInt_lt, Int32.le_iff_toInt_le, ← Int32.toInt_inj, Int32.reduceToInt, n_1, n_2, n_8, Int32.toNatClampNeg, Int64.lt_iff_toInt_lt, Int64.le_iff_toInt_le, ← Int64.toInt_inj, Int64.reduceToInt, Int32.toInt_toInt64, lg_cmp_ge, lg_cmp_le, lg_cmp_gt, lg_cmp_lt, lg_cmp_eq, Bool.false_eq_true, Bool.true_eq_false, reduceCtorEq, false_iff, true_iff, iff_true, iff_false, and_true, true_and, and_false, false_and, reduceIte, ite_true, ite_false, eq_self] at *)) <;> omega)), trivial⟩
                · replace h12 := bI_t (b := bx11) (rfl) h12
                  have uh12_0 := iff_t cx11_1 h12
                  refine wa_iload_n (i := 3) rfl rfl ?_
                  refine wa_goto o_X8_one_260 (by decide) ?_
                  refine wa_iload_n (i := 3) rfl rfl ?_
                  refine wa_Vv (d9 := d - 1) [.int _, .int _] [] (sp_X8_accept_at_D G (d := d - 1) (by omega) s8 _ _ (by ((try simp only [vp_in_iff, Int32.lt_iff_toInt_lt, Int32.le_iff_toInt_le, ← Int32.toInt_inj, Int32.reduceToInt, n_1, n_2, n_8, Int32.toNatClampNeg, Int64.lt_iff_toInt_lt, Int64.le_iff_toInt_le, ← Int64.toInt_inj, Int64.reduceToInt, Int32.toInt_toInt64, lg_cmp_ge, lg_cmp_le, lg_cmp_gt, lg_cmp_lt, lg_cmp_eq, Bool.false_eq_true, Bool.true_eq_false, reduceCtorEq, false_iff, true_iff, iff_true, iff_false, and_true, true_and, and_false, false_and, reduceIte, ite_true, ite_false, eq_self] at *)) <;> omega) (by rw [Fm.gi fs8 (q := 18) (k := 5) rfl rfl]; first | assumption | exact Or.inl rfl | exact Or.inr rfl | (((try simp only [vp_in_iff, Int32.lt_iff_toInt_lt, Int32.le_iff_toInt_le, ← Int32.toInt_inj, Int32.reduceToInt, n_1, n_2, n_8, Int32.toNatClampNeg, Int64.lt_iff_toInt_lt, Int64.le_iff_toInt_le, ← Int64.toInt_inj, Int64.reduceToInt, Int32.toInt_toInt64, lg_cmp_ge, lg_cmp_le, lg_cmp_gt, lg_cmp_lt, lg_cmp_eq, Bool.false_eq_true, Bool.true_eq_false, reduceCtorEq, false_iff, true_iff, iff_true, iff_false, and_true, true_and, and_false, false_and, reduceIte, ite_true, ite_false, eq_self] at *)) <;> omega)) (by first | assumption | exact Or.inl rfl | exact Or.inr rfl | (((try simp only [vp_in_iff, Int32.lt_iff_toInt_lt, Int32.le_iff_toInt_le, ← Int32.toInt_inj, Int32.reduceToInt, n_1, n_2, n_8, Int32.toNatClampNeg, Int64.lt_iff_toInt_lt, Int64.le_iff_toInt_le, ← Int64.toInt_inj, Int64.reduceToInt, Int32.toInt_toInt64, lg_cmp_ge, lg_cmp_le, lg_cmp_gt, lg_cmp_lt, lg_cmp_eq, Bool.false_eq_true, Bool.true_eq_false, reduceCtorEq, false_iff, true_iff, iff_true, iff_false, and_true, true_and, and_false, false_and, reduceIte, ite_true, ite_false, eq_self] at *)) <;> omega)) (by first | assumption | exact Or.inl rfl | exact Or.inr rfl | (((try simp only [vp_in_iff, Int32.lt_iff_toInt_lt, Int32.le_iff_toInt_le, ← Int32.toInt_inj, Int32.reduceToInt, n_1, n_2, n_8, Int32.toNatClampNeg, Int64.lt_iff_toInt_lt, Int64.le_iff_toInt_le, ← Int64.toInt_inj, Int64.reduceToInt, Int32.toInt_toInt64, lg_cmp_ge, lg_cmp_le, lg_cmp_gt, lg_cmp_lt, lg_cmp_eq, Bool.false_eq_true, Bool.true_eq_false, reduceCtorEq, false_iff, true_iff, iff_true, iff_false, and_true, true_and, and_false, false_and, reduceIte, ite_true, ite_false, eq_self] at *)) <;> omega))) (rfl) rfl rfl (zr (by omega)) mk_X8_accept ly_30 ml_8_191 (Nat.le_of_ble_eq_true rfl) (fun s20 hs20 => ?_)
                  obtain ⟨fs20, cx21_1, cx21_2, -⟩ := hs20
                  have Fs20 : Fm [10, 11, 30] [] σ s20 := Fm.tr Fs8 (Fm.wd fs20 rfl rfl)
                  refine wa_aload_n (i := 0) rfl rfl ?_
                  refine wa_Vv (d9 := d - 1) [] [] (sp_X8_term_at_D G (d := d - 1) (by omega) s20  (by rw [(Fm.gi fs20 (q := 18) (k := 5) rfl rfl).trans (Fm.gi fs8 (q := 18) (k := 5) rfl rfl)]; first | assumption | exact Or.inl rfl | exact Or.inr rfl | (((try simp only [vp_in_iff, Int32.lt_iff_toInt_lt, Int32.le_iff_toInt_le, ← Int32.toInt_inj, Int32.reduceToInt, n_1, n_2, n_8, Int32.toNatClampNeg, Int64.lt_iff_toInt_lt, Int64.le_iff_toInt_le, ← Int64.toInt_inj, Int64.reduceToInt, Int32.toInt_toInt64, lg_cmp_ge, lg_cmp_le, lg_cmp_gt, lg_cmp_lt, lg_cmp_eq, Bool.false_eq_true, Bool.true_eq_false, reduceCtorEq, false_iff, true_iff, iff_true, iff_false, and_true, true_and, and_false, false_and, reduceIte, ite_true, ite_false, eq_self] at *)) <;> omega)) (by first | assumption | exact Or.inl rfl | exact Or.inr rfl | (((try simp only [vp_in_iff, Int32.lt_iff_toInt_lt, Int32.le_iff_toInt_le, ← Int32.toInt_inj, Int32.reduceToInt, n_1, n_2, n_8, Int32.toNatClampNeg, Int64.lt_iff_toInt_lt, Int64.le_iff_toInt_le, ← Int64.toInt_inj, Int64.reduceToInt, Int32.toInt_toInt64, lg_cmp_ge, lg_cmp_le, lg_cmp_gt, lg_cmp_lt, lg_cmp_eq, Bool.false_eq_true, Bool.true_eq_false, reduceCtorEq, false_iff, true_iff, iff_true, iff_false, and_true, true_and, and_false, false_and, reduceIte, ite_true, ite_false, eq_self] at *)) <;> omega)) (by first | assumption | exact Or.inl rfl | exact Or.inr rfl | (((try simp only [vp_in_iff, Int32.lt_iff_toInt_lt, Int32.le_iff_toInt_le, ← Int32.toInt_inj, Int32.reduceToInt, n_1, n_2, n_8, Int32.toNatClampNeg, Int64.lt_iff_toInt_lt, Int64.le_iff_toInt_le, ← Int64.toInt_inj, Int64.reduceToInt, Int32.toInt_toInt64, lg_cmp_ge, lg_cmp_le, lg_cmp_gt, lg_cmp_lt, lg_cmp_eq, Bool.false_eq_true, Bool.true_eq_false, reduceCtorEq, false_iff, true_iff, iff_true, iff_false, and_true, true_and, and_false, false_and, reduceIte, ite_true, ite_false, eq_self] at *)) <;> omega))) (rfl) rfl rfl (zr (by omega)) mk_X8_term ly_30 ml_8_176 (Nat.le_of_ble_eq_true rfl) (fun s22 hs22 => ?_)
                  obtain ⟨fs22, cx23_1, cx23_2, -⟩ := hs22
                  have Fs22 : Fm [10, 11, 30] [] σ s22 := Fm.tr Fs20 (Fm.wd fs22 rfl rfl)
                  refine wa_aload_n (i := 0) rfl rfl ?_
                  refine wa_iload_n (i := 3) rfl rfl ?_
                  refine wa_bipush (v := 63) (by decide) ?_
                  refine wa_iand ?_
                  refine wa_top (fun v24 hv24 => ?_)
                  first | (refine i_andK hv24 ?_ (fun tv24 => ?_); (((try simp only [vp_in_iff, Int32.lt_iff_toInt_lt, Int32.le_iff_toInt_le, ← Int32.toInt_inj, Int32.reduceToInt, n_1, n_2, n_8, Int32.toNatClampNeg, Int64.lt_iff_toInt_lt, Int64.le_iff_toInt_le, ← Int64.toInt_inj, Int64.reduceToInt, Int32.toInt_toInt64, lg_cmp_ge, lg_cmp_le, lg_cmp_gt, lg_cmp_lt, lg_cmp_eq, Bool.false_eq_true, Bool.true_eq_false, reduceCtorEq, false_iff, true_iff, iff_true, iff_false, and_true, true_and, and_false, false_and, reduceIte, ite_true, ite_false, eq_self] at *)) <;> omega)) | skip
                  clear hv24
                  refine wa_Vv (d9 := d - 1) [.int _] [] (sp_X8_step_at_D G (d := d - 1) (by omega) s22 _ (by first | assumption | exact Or.inl rfl | exact Or.inr rfl | (((try simp only [vp_in_iff, Int32.lt_iff_toInt_lt, Int32.le_iff_toInt_le, ← Int32.toInt_inj, Int32.reduceToInt, n_1, n_2, n_8, Int32.toNatClampNeg, Int64.lt_iff_toInt_lt, Int64.le_iff_toInt_le, ← Int64.toInt_inj, Int64.reduceToInt, Int32.toInt_toInt64, lg_cmp_ge, lg_cmp_le, lg_cmp_gt, lg_cmp_lt, lg_cmp_eq, Bool.false_eq_true, Bool.true_eq_false, reduceCtorEq, false_iff, true_iff, iff_true, iff_false, and_true, true_and, and_false, false_and, reduceIte, ite_true, ite_false, eq_self] at *)) <;> omega)) (by first | assumption | exact Or.inl rfl | exact Or.inr rfl | (((try simp only [vp_in_iff, Int32.lt_iff_toInt_lt, Int32.le_iff_toInt_le, ← Int32.toInt_inj, Int32.reduceToInt, n_1, n_2, n_8, Int32.toNatClampNeg, Int64.lt_iff_toInt_lt, Int64.le_iff_toInt_le, ← Int64.toInt_inj, Int64.reduceToInt, Int32.toInt_toInt64, lg_cmp_ge, lg_cmp_le, lg_cmp_gt, lg_cmp_lt, lg_cmp_eq, Bool.false_eq_true, Bool.true_eq_false, reduceCtorEq, false_iff, true_iff, iff_true, iff_false, and_true, true_and, and_false, false_and, reduceIte, ite_true, ite_false, eq_self] at *)) <;> omega))) (rfl) rfl rfl (zr (by omega)) mk_X8_step ly_30 ml_8_194 (Nat.le_of_ble_eq_true rfl) (fun s25 hs25 => ?_)
                  obtain ⟨fs25, cx26_1, cx26_2, -⟩ := hs25
                  have Fs25 : Fm [10, 11, 30] [] σ s25 := Fm.tr Fs22 (Fm.wd fs25 rfl rfl)
                  refine wa_return (st := []) rfl rfl ?_
                  exact ⟨Fs25, (by first | assumption | (((try simp only [vp_in_iff, Int32.lt_iff_toInt_lt, Int32.le_iff_toInt_le, ← Int32.toInt_inj, Int32.reduceToInt, n_1, n_2, n_8, Int32.toNatClampNeg, Int64.lt_iff_toInt_lt, Int64.le_iff_toInt_le, ← Int64.toInt_inj, Int64.reduceToInt, Int32.toInt_toInt64, lg_cmp_ge, lg_cmp_le, lg_cmp_gt, lg_cmp_lt, lg_cmp_eq, Bool.false_eq_true, Bool.true_eq_false, reduceCtorEq, false_iff, true_iff, iff_true, iff_false, and_true, true_and, and_false, false_and, reduceIte, ite_true, ite_false, eq_self] at *)) <;> omega)), (by first | assumption | (((try simp only [vp_in_iff, Int32.lt_iff_toInt_lt, Int32.le_iff_toInt_le, ← Int32.toInt_inj, Int32.reduceToInt, n_1, n_2, n_8, Int32.toNatClampNeg, Int64.lt_iff_toInt_lt, Int64.le_iff_toInt_le, ← Int64.toInt_inj, Int64.reduceToInt, Int32.toInt_toInt64, lg_cmp_ge, lg_cmp_le, lg_cmp_gt, lg_cmp_lt, lg_cmp_eq, Bool.false_eq_true, Bool.true_eq_false, reduceCtorEq, false_iff, true_iff, iff_true, iff_false, and_true, true_and, and_false, false_and, reduceIte, ite_true, ite_false, eq_self] at *)) <;> omega)), trivial⟩
              · (exfalso; ((try simp only [vp_in_iff, Int32.lt_iff_toInt_lt, Int32.le_iff_toInt_le, ← Int32.toInt_inj, Int32.reduceToInt, n_1, n_2, n_8, Int32.toNatClampNeg, Int64.lt_iff_toInt_lt, Int64.le_iff_toInt_le, ← Int64.toInt_inj, Int64.reduceToInt, Int32.toInt_toInt64, lg_cmp_ge, lg_cmp_le, lg_cmp_gt, lg_cmp_lt, lg_cmp_eq, Bool.false_eq_true, Bool.true_eq_false, reduceCtorEq, false_iff, true_iff, iff_true, iff_false, and_true, true_and, and_false, false_and, reduceIte, ite_true, ite_false, eq_self] at *)) <;> omega)
            · exact absurd rfl h6
          · (exfalso; ((try simp only [vp_in_iff, Int32.lt_iff_toInt_lt, Int32.le_iff_toInt_le, ← Int32.toInt_inj, Int32.reduceToInt, n_1, n_2, n_8, Int32.toNatClampNeg, Int64.lt_iff_toInt_lt, Int64.le_iff_toInt_le, ← Int64.toInt_inj, Int64.reduceToInt, Int32.toInt_toInt64, lg_cmp_ge, lg_cmp_le, lg_cmp_gt, lg_cmp_lt, lg_cmp_eq, Bool.false_eq_true, Bool.true_eq_false, reduceCtorEq, false_iff, true_iff, iff_true, iff_false, and_true, true_and, and_false, false_and, reduceIte, ite_true, ite_false, eq_self] at *)) <;> omega)
      · (exfalso; ((try simp only [vp_in_iff, Int32.lt_iff_toInt_lt, Int32.le_iff_toInt_le, ← Int32.toInt_inj, Int32.reduceToInt, n_1, n_2, n_8, Int32.toNatClampNeg, Int64.lt_iff_toInt_lt, Int64.le_iff_toInt_le, ← Int64.toInt_inj, Int64.reduceToInt, Int32.toInt_toInt64, lg_cmp_ge, lg_cmp_le, lg_cmp_gt, lg_cmp_lt, lg_cmp_eq, Bool.false_eq_true, Bool.true_eq_false, reduceCtorEq, false_iff, true_iff, iff_true, iff_false, and_true, true_and, and_false, false_and, reduceIte, ite_true, ite_false, eq_self] at *)) <;> omega)
    · (exfalso; ((try simp only [vp_in_iff, Int32.lt_iff_toInt_lt, Int32.le_iff_toInt_le, ← Int32.toInt_inj, Int32.reduceToInt, n_1, n_2, n_8, Int32.toNatClampNeg, Int64.lt_iff_toInt_lt, Int64.le_iff_toInt_le, ← Int64.toInt_inj, Int64.reduceToInt, Int32.toInt_toInt64, lg_cmp_ge, lg_cmp_le, lg_cmp_gt, lg_cmp_lt, lg_cmp_eq, Bool.false_eq_true, Bool.true_eq_false, reduceCtorEq, false_iff, true_iff, iff_true, iff_false, and_true, true_and, and_false, false_and, reduceIte, ite_true, ite_false, eq_self] at *)) <;> omega)
  · (exfalso; ((try simp only [vp_in_iff, Int32.lt_iff_toInt_lt, Int32.le_iff_toInt_le, ← Int32.toInt_inj, Int32.reduceToInt, n_1, n_2, n_8, Int32.toNatClampNeg, Int64.lt_iff_toInt_lt, Int64.le_iff_toInt_le, ← Int64.toInt_inj, Int64.reduceToInt, Int32.toInt_toInt64, lg_cmp_ge, lg_cmp_le, lg_cmp_gt, lg_cmp_lt, lg_cmp_eq, Bool.false_eq_true, Bool.true_eq_false, reduceCtorEq, false_iff, true_iff, iff_true, iff_false, and_true, true_and, and_false, false_and, reduceIte, ite_true, ite_false, eq_self] at *)) <;> omega)
set_option maxHeartbeats 4000000 in
theorem sp_X8_both_at_D (G : kG9) {d : Nat} (hd : 5 ≤ d) (σ : St) (r1 : (gi σ 18 5).toInt ≤ 2000) (r2 : (gi σ 30 7).toInt = 44) (r3 : ¬ (gi σ 30 3).toInt = 0) : Ct G M_X8_both d [.ref 30] σ (fun r σ' => Fm [10, 11, 30] [] σ σ' ∧ ((gi σ' 30 7).toInt = 44) ∧ (¬ (gi σ' 30 3).toInt = 0) ∧ True) := by
  refine wa_start (by decide) rfl (Nat.le_of_ble_eq_true rfl) (lv := [(0, .ref 30)]) rfl o_X8_both_0 rfl ?_
  refine wa_aload_n (i := 0) rfl rfl ?_
  refine wa_Vv (d9 := d - 1) [] [] (sp_X8_one_at_D G (d := d - 1) (by omega) σ  (by first | assumption | exact Or.inl rfl | exact Or.inr rfl | (((try simp only [vp_in_iff, Int32.lt_iff_toInt_lt, Int32.le_iff_toInt_le, ← Int32.toInt_inj, Int32.reduceToInt, n_1, n_2, n_8, Int32.toNatClampNeg, Int64.lt_iff_toInt_lt, Int64.le_iff_toInt_le, ← Int64.toInt_inj, Int64.reduceToInt, Int32.toInt_toInt64, lg_cmp_ge, lg_cmp_le, lg_cmp_gt, lg_cmp_lt, lg_cmp_eq, Bool.false_eq_true, Bool.true_eq_false, reduceCtorEq, false_iff, true_iff, iff_true, iff_false, and_true, true_and, and_false, false_and, reduceIte, ite_true, ite_false, eq_self] at *)) <;> omega)) (by first | assumption | exact Or.inl rfl | exact Or.inr rfl | (((try simp only [vp_in_iff, Int32.lt_iff_toInt_lt, Int32.le_iff_toInt_le, ← Int32.toInt_inj, Int32.reduceToInt, n_1, n_2, n_8, Int32.toNatClampNeg, Int64.lt_iff_toInt_lt, Int64.le_iff_toInt_le, ← Int64.toInt_inj, Int64.reduceToInt, Int32.toInt_toInt64, lg_cmp_ge, lg_cmp_le, lg_cmp_gt, lg_cmp_lt, lg_cmp_eq, Bool.false_eq_true, Bool.true_eq_false, reduceCtorEq, false_iff, true_iff, iff_true, iff_false, and_true, true_and, and_false, false_and, reduceIte, ite_true, ite_false, eq_self] at *)) <;> omega)) (by first | assumption | exact Or.inl rfl | exact Or.inr rfl | (((try simp only [vp_in_iff, Int32.lt_iff_toInt_lt, Int32.le_iff_toInt_le, ← Int32.toInt_inj, Int32.reduceToInt, n_1, n_2, n_8, Int32.toNatClampNeg, Int64.lt_iff_toInt_lt, Int64.le_iff_toInt_le, ← Int64.toInt_inj, Int64.reduceToInt, Int32.toInt_toInt64, lg_cmp_ge, lg_cmp_le, lg_cmp_gt, lg_cmp_lt, lg_cmp_eq, Bool.false_eq_true, Bool.true_eq_false, reduceCtorEq, false_iff, true_iff, iff_true, iff_false, and_true, true_and, and_false, false_and, reduceIte, ite_true, ite_false, eq_self] at *)) <;> omega))) (rfl) rfl rfl (zr (by omega)) mk_X8_one ly_30 ml_8_200 (Nat.le_of_ble_eq_true rfl) (fun s1 hs1 => ?_)
  obtain ⟨fs1, cx2_1, cx2_2, -⟩ := hs1
  have Fs1 : Fm [10, 11, 30] [] σ s1 := Fm.tr (Fm.rf [10, 11, 30] [] σ) (Fm.wd fs1 rfl rfl)
  refine wa_iconst (v := 0) (by decide) ?_
  refine wa_istore_nD (lv' := [(1, .int 0), (0, .ref 30)]) (i := 1) rfl (by decide) rfl ?_
  refine wa_pick [1, 0] rfl ?_
  have hi5 : ∀ (n9_6 : Nat) (l1 : Int32) (s3 : St), ((Fm [10, 11, 30] [] σ s3) ∧ (gi s3 18 5 = gi σ 18 5) ∧ (0 ≤ l1.toInt) ∧ ((gi s3 30 7).toInt = 44) ∧ (¬ (gi s3 30 3).toInt = 0) ∧ (True)) → (2147483647 - l1.toInt).toNat = n9_6 → WA G M_X8_both (ZM G M_X8_both d (fun r σ' => Fm [10, 11, 30] [] σ σ' ∧ ((gi σ' 30 7).toInt = 44) ∧ (¬ (gi σ' 30 3).toInt = 0) ∧ True)) B_X8_both_6 [(0, .ref 30), (1, .int l1)] [] s3 := by
    intro n9_6
    induction n9_6 using Nat.strongRecOn with
    | _ n9_6 ih4 =>
      intro l1 s3 i9 m9_6
      obtain ⟨Fs3, khi5_0, jhi5_0, jhi5_1, jhi5_2, -⟩ := i9
      have ul1 := Int32.toInt_lt l1
      have wl1 := Int32.le_toInt l1
      refine wa_iload_n (i := 1) rfl rfl ?_
      refine wa_bipush (v := 120) (by decide) ?_
      refine wa_icmp_ge o_X8_both_45 (by decide) (fun h6 => ?_) (fun h6 => ?_)
      · refine wa_return (st := []) rfl rfl ?_
        exact ⟨Fs3, (by first | assumption | (((try simp only [vp_in_iff, Int32.lt_iff_toInt_lt, Int32.le_iff_toInt_le, ← Int32.toInt_inj, Int32.reduceToInt, n_1, n_2, n_8, Int32.toNatClampNeg, Int64.lt_iff_toInt_lt, Int64.le_iff_toInt_le, ← Int64.toInt_inj, Int64.reduceToInt, Int32.toInt_toInt64, lg_cmp_ge, lg_cmp_le, lg_cmp_gt, lg_cmp_lt, lg_cmp_eq, Bool.false_eq_true, Bool.true_eq_false, reduceCtorEq, false_iff, true_iff, iff_true, iff_false, and_true, true_and, and_false, false_and, reduceIte, ite_true, ite_false, eq_self] at *)) <;> omega)), (by first | assumption | (((try simp only [vp_in_iff, Int32.lt_iff_toInt_lt, Int32.le_iff_toInt_le, ← Int32.toInt_inj, Int32.reduceToInt, n_1, n_2, n_8, Int32.toNatClampNeg, Int64.lt_iff_toInt_lt, Int64.le_iff_toInt_le, ← Int64.toInt_inj, Int64.reduceToInt, Int32.toInt_toInt64, lg_cmp_ge, lg_cmp_le, lg_cmp_gt, lg_cmp_lt, lg_cmp_eq, Bool.false_eq_true, Bool.true_eq_false, reduceCtorEq, false_iff, true_iff, iff_true, iff_false, and_true, true_and, and_false, false_and, reduceIte, ite_true, ite_false, eq_self] at *)) <;> omega)), trivial⟩
      · have mh6 := nle_mx h6
        refine wa_aload_n (i := 0) rfl rfl ?_
        refine wa_geti ck_8 fl_8_39 ly_30 ?_
        refine wa_bipush (v := 23) (by decide) ?_
        refine wa_icmp_ne o_X8_both_45 (by decide) (fun h7 => ?_) (fun h7 => ?_)
        · refine wa_return (st := []) rfl rfl ?_
          exact ⟨Fs3, (by first | assumption | (((try simp only [vp_in_iff, Int32.lt_iff_toInt_lt, Int32.le_iff_toInt_le, ← Int32.toInt_inj, Int32.reduceToInt, n_1, n_2, n_8, Int32.toNatClampNeg, Int64.lt_iff_toInt_lt, Int64.le_iff_toInt_le, ← Int64.toInt_inj, Int64.reduceToInt, Int32.toInt_toInt64, lg_cmp_ge, lg_cmp_le, lg_cmp_gt, lg_cmp_lt, lg_cmp_eq, Bool.false_eq_true, Bool.true_eq_false, reduceCtorEq, false_iff, true_iff, iff_true, iff_false, and_true, true_and, and_false, false_and, reduceIte, ite_true, ite_false, eq_self] at *)) <;> omega)), (by first | assumption | (((try simp only [vp_in_iff, Int32.lt_iff_toInt_lt, Int32.le_iff_toInt_le, ← Int32.toInt_inj, Int32.reduceToInt, n_1, n_2, n_8, Int32.toNatClampNeg, Int64.lt_iff_toInt_lt, Int64.le_iff_toInt_le, ← Int64.toInt_inj, Int64.reduceToInt, Int32.toInt_toInt64, lg_cmp_ge, lg_cmp_le, lg_cmp_gt, lg_cmp_lt, lg_cmp_eq, Bool.false_eq_true, Bool.true_eq_false, reduceCtorEq, false_iff, true_iff, iff_true, iff_false, and_true, true_and, and_false, false_and, reduceIte, ite_true, ite_false, eq_self] at *)) <;> omega)), trivial⟩
        · (exfalso; ((try simp only [vp_in_iff, Int32.lt_iff_toInt_lt, Int32.le_iff_toInt_le, ← Int32.toInt_inj, Int32.reduceToInt, n_1, n_2, n_8, Int32.toNatClampNeg, Int64.lt_iff_toInt_lt, Int64.le_iff_toInt_le, ← Int64.toInt_inj, Int64.reduceToInt, Int32.toInt_toInt64, lg_cmp_ge, lg_cmp_le, lg_cmp_gt, lg_cmp_lt, lg_cmp_eq, Bool.false_eq_true, Bool.true_eq_false, reduceCtorEq, false_iff, true_iff, iff_true, iff_false, and_true, true_and, and_false, false_and, reduceIte, ite_true, ite_false, eq_self] at *)) <;> omega)
  exact hi5 _ _ _ ⟨Fs1, (Fm.gi fs1 (q := 18) (k := 5) rfl rfl), (by ((try simp only [vp_in_iff, Int32.lt_iff_toInt_lt, Int32.le_iff_toInt_le, ← Int32.toInt_inj, Int32.reduceToInt, n_1, n_2, n_8, Int32.toNatClampNeg, Int64.lt_iff_toInt_lt, Int64.le_iff_toInt_le, ← Int64.toInt_inj, Int64.reduceToInt, Int32.toInt_toInt64, lg_cmp_ge, lg_cmp_le, lg_cmp_gt, lg_cmp_lt, lg_cmp_eq, Bool.false_eq_true, Bool.true_eq_false, reduceCtorEq, false_iff, true_iff, iff_true, iff_false, and_true, true_and, and_false, false_and, reduceIte, ite_true, ite_false, eq_self] at *)) <;> omega), (by first | assumption | (((try simp only [vp_in_iff, Int32.lt_iff_toInt_lt, Int32.le_iff_toInt_le, ← Int32.toInt_inj, Int32.reduceToInt, n_1, n_2, n_8, Int32.toNatClampNeg, Int64.lt_iff_toInt_lt, Int64.le_iff_toInt_le, ← Int64.toInt_inj, Int64.reduceToInt, Int32.toInt_toInt64, lg_cmp_ge, lg_cmp_le, lg_cmp_gt, lg_cmp_lt, lg_cmp_eq, Bool.false_eq_true, Bool.true_eq_false, reduceCtorEq, false_iff, true_iff, iff_true, iff_false, and_true, true_and, and_false, false_and, reduceIte, ite_true, ite_false, eq_self] at *)) <;> omega)), (by first | assumption | (((try simp only [vp_in_iff, Int32.lt_iff_toInt_lt, Int32.le_iff_toInt_le, ← Int32.toInt_inj, Int32.reduceToInt, n_1, n_2, n_8, Int32.toNatClampNeg, Int64.lt_iff_toInt_lt, Int64.le_iff_toInt_le, ← Int64.toInt_inj, Int64.reduceToInt, Int32.toInt_toInt64, lg_cmp_ge, lg_cmp_le, lg_cmp_gt, lg_cmp_lt, lg_cmp_eq, Bool.false_eq_true, Bool.true_eq_false, reduceCtorEq, false_iff, true_iff, iff_true, iff_false, and_true, true_and, and_false, false_and, reduceIte, ite_true, ite_false, eq_self] at *)) <;> omega)), trivial⟩ rfl
set_option maxHeartbeats 4000000 in
theorem sp_X8_side_at_D (G : kG9) {d : Nat} (hd : 6 ≤ d) (σ : St) (r1 : (gi σ 18 5).toInt ≤ 2000) (r2 : (gi σ 30 7).toInt = 44) (r3 : ¬ (gi σ 30 3).toInt = 0) : Ct G M_X8_side d [.ref 30] σ (fun r σ' => Fm [10, 11, 30] [] σ σ' ∧ ((gi σ' 30 7).toInt = 44) ∧ (¬ (gi σ' 30 3).toInt = 0) ∧ True) := by
  refine wa_start (by decide) rfl (Nat.le_of_ble_eq_true rfl) (lv := [(0, .ref 30)]) rfl o_X8_side_0 rfl ?_
  refine wa_aload_n (i := 0) rfl rfl ?_
  refine wa_Vv (d9 := d - 1) [] [] (sp_X8_both_at_D G (d := d - 1) (by omega) σ  (by first | assumption | exact Or.inl rfl | exact Or.inr rfl | (((try simp only [vp_in_iff, Int32.lt_iff_toInt_lt, Int32.le_iff_toInt_le, ← Int32.toInt_inj, Int32.reduceToInt, n_1, n_2, n_8, Int32.toNatClampNeg, Int64.lt_iff_toInt_lt, Int64.le_iff_toInt_le, ← Int64.toInt_inj, Int64.reduceToInt, Int32.toInt_toInt64, lg_cmp_ge, lg_cmp_le, lg_cmp_gt, lg_cmp_lt, lg_cmp_eq, Bool.false_eq_true, Bool.true_eq_false, reduceCtorEq, false_iff, true_iff, iff_true, iff_false, and_true, true_and, and_false, false_and, reduceIte, ite_true, ite_false, eq_self] at *)) <;> omega)) (by first | assumption | exact Or.inl rfl | exact Or.inr rfl | (((try simp only [vp_in_iff, Int32.lt_iff_toInt_lt, Int32.le_iff_toInt_le, ← Int32.toInt_inj, Int32.reduceToInt, n_1, n_2, n_8, Int32.toNatClampNeg, Int64.lt_iff_toInt_lt, Int64.le_iff_toInt_le, ← Int64.toInt_inj, Int64.reduceToInt, Int32.toInt_toInt64, lg_cmp_ge, lg_cmp_le, lg_cmp_gt, lg_cmp_lt, lg_cmp_eq, Bool.false_eq_true, Bool.true_eq_false, reduceCtorEq, false_iff, true_iff, iff_true, iff_false, and_true, true_and, and_false, false_and, reduceIte, ite_true, ite_false, eq_self] at *)) <;> omega)) (by first | assumption | exact Or.inl rfl | exact Or.inr rfl | (((try simp only [vp_in_iff, Int32.lt_iff_toInt_lt, Int32.le_iff_toInt_le, ← Int32.toInt_inj, Int32.reduceToInt, n_1, n_2, n_8, Int32.toNatClampNeg, Int64.lt_iff_toInt_lt, Int64.le_iff_toInt_le, ← Int64.toInt_inj, Int64.reduceToInt, Int32.toInt_toInt64, lg_cmp_ge, lg_cmp_le, lg_cmp_gt, lg_cmp_lt, lg_cmp_eq, Bool.false_eq_true, Bool.true_eq_false, reduceCtorEq, false_iff, true_iff, iff_true, iff_false, and_true, true_and, and_false, false_and, reduceIte, ite_true, ite_false, eq_self] at *)) <;> omega))) (rfl) rfl rfl (zr (by omega)) mk_X8_both ly_30 ml_8_197 (Nat.le_of_ble_eq_true rfl) (fun s1 hs1 => ?_)
  obtain ⟨fs1, cx2_1, cx2_2, -⟩ := hs1
  have Fs1 : Fm [10, 11, 30] [] σ s1 := Fm.tr (Fm.rf [10, 11, 30] [] σ) (Fm.wd fs1 rfl rfl)
  refine wa_iconst (v := 0) (by decide) ?_
  refine wa_istore_nD (lv' := [(1, .int 0), (0, .ref 30)]) (i := 1) rfl (by decide) rfl ?_
  refine wa_pick [1, 0] rfl ?_
  have hi5 : ∀ (n9_6 : Nat) (l1 : Int32) (s3 : St), ((Fm [10, 11, 30] [] σ s3) ∧ (gi s3 18 5 = gi σ 18 5) ∧ (0 ≤ l1.toInt) ∧ ((gi s3 30 7).toInt = 44) ∧ (¬ (gi s3 30 3).toInt = 0) ∧ (True)) → (2147483647 - l1.toInt).toNat = n9_6 → WA G M_X8_side (ZM G M_X8_side d (fun r σ' => Fm [10, 11, 30] [] σ σ' ∧ ((gi σ' 30 7).toInt = 44) ∧ (¬ (gi σ' 30 3).toInt = 0) ∧ True)) B_X8_side_6 [(0, .ref 30), (1, .int l1)] [] s3 := by
    intro n9_6
    induction n9_6 using Nat.strongRecOn with
    | _ n9_6 ih4 =>
      intro l1 s3 i9 m9_6
      obtain ⟨Fs3, khi5_0, jhi5_0, jhi5_1, jhi5_2, -⟩ := i9
      have ul1 := Int32.toInt_lt l1
      have wl1 := Int32.le_toInt l1
      refine wa_iload_n (i := 1) rfl rfl ?_
      refine wa_bipush (v := 120) (by decide) ?_
      refine wa_icmp_ge o_X8_side_45 (by decide) (fun h6 => ?_) (fun h6 => ?_)
      · refine wa_return (st := []) rfl rfl ?_
        exact ⟨Fs3, (by first | assumption | (((try simp only [vp_in_iff, Int32.lt_iff_toInt_lt, Int32.le_iff_toInt_le, ← Int32.toInt_inj, Int32.reduceToInt, n_1, n_2, n_8, Int32.toNatClampNeg, Int64.lt_iff_toInt_lt, Int64.le_iff_toInt_le, ← Int64.toInt_inj, Int64.reduceToInt, Int32.toInt_toInt64, lg_cmp_ge, lg_cmp_le, lg_cmp_gt, lg_cmp_lt, lg_cmp_eq, Bool.false_eq_true, Bool.true_eq_false, reduceCtorEq, false_iff, true_iff, iff_true, iff_false, and_true, true_and, and_false, false_and, reduceIte, ite_true, ite_false, eq_self] at *)) <;> omega)), (by first | assumption | (((try simp only [vp_in_iff, Int32.lt_iff_toInt_lt, Int32.le_iff_toInt_le, ← Int32.toInt_inj, Int32.reduceToInt, n_1, n_2, n_8, Int32.toNatClampNeg, Int64.lt_iff_toInt_lt, Int64.le_iff_toInt_le, ← Int64.toInt_inj, Int64.reduceToInt, Int32.toInt_toInt64, lg_cmp_ge, lg_cmp_le, lg_cmp_gt, lg_cmp_lt, lg_cmp_eq, Bool.false_eq_true, Bool.true_eq_false, reduceCtorEq, false_iff, true_iff, iff_true, iff_false, and_true, true_and, and_false, false_and, reduceIte, ite_true, ite_false, eq_self] at *)) <;> omega)), trivial⟩
      · have mh6 := nle_mx h6
        refine wa_aload_n (i := 0) rfl rfl ?_
        refine wa_geti ck_8 fl_8_39 ly_30 ?_
        refine wa_bipush (v := 24) (by decide) ?_
        refine wa_icmp_ne o_X8_side_45 (by decide) (fun h7 => ?_) (fun h7 => ?_)
        · refine wa_return (st := []) rfl rfl ?_
          exact ⟨Fs3, (by first | assumption | (((try simp only [vp_in_iff, Int32.lt_iff_toInt_lt, Int32.le_iff_toInt_le, ← Int32.toInt_inj, Int32.reduceToInt, n_1, n_2, n_8, Int32.toNatClampNeg, Int64.lt_iff_toInt_lt, Int64.le_iff_toInt_le, ← Int64.toInt_inj, Int64.reduceToInt, Int32.toInt_toInt64, lg_cmp_ge, lg_cmp_le, lg_cmp_gt, lg_cmp_lt, lg_cmp_eq, Bool.false_eq_true, Bool.true_eq_false, reduceCtorEq, false_iff, true_iff, iff_true, iff_false, and_true, true_and, and_false, false_and, reduceIte, ite_true, ite_false, eq_self] at *)) <;> omega)), (by first | assumption | (((try simp only [vp_in_iff, Int32.lt_iff_toInt_lt, Int32.le_iff_toInt_le, ← Int32.toInt_inj, Int32.reduceToInt, n_1, n_2, n_8, Int32.toNatClampNeg, Int64.lt_iff_toInt_lt, Int64.le_iff_toInt_le, ← Int64.toInt_inj, Int64.reduceToInt, Int32.toInt_toInt64, lg_cmp_ge, lg_cmp_le, lg_cmp_gt, lg_cmp_lt, lg_cmp_eq, Bool.false_eq_true, Bool.true_eq_false, reduceCtorEq, false_iff, true_iff, iff_true, iff_false, and_true, true_and, and_false, false_and, reduceIte, ite_true, ite_false, eq_self] at *)) <;> omega)), trivial⟩
        · (exfalso; ((try simp only [vp_in_iff, Int32.lt_iff_toInt_lt, Int32.le_iff_toInt_le, ← Int32.toInt_inj, Int32.reduceToInt, n_1, n_2, n_8, Int32.toNatClampNeg, Int64.lt_iff_toInt_lt, Int64.le_iff_toInt_le, ← Int64.toInt_inj, Int64.reduceToInt, Int32.toInt_toInt64, lg_cmp_ge, lg_cmp_le, lg_cmp_gt, lg_cmp_lt, lg_cmp_eq, Bool.false_eq_true, Bool.true_eq_false, reduceCtorEq, false_iff, true_iff, iff_true, iff_false, and_true, true_and, and_false, false_and, reduceIte, ite_true, ite_false, eq_self] at *)) <;> omega)
  exact hi5 _ _ _ ⟨Fs1, (Fm.gi fs1 (q := 18) (k := 5) rfl rfl), (by ((try simp only [vp_in_iff, Int32.lt_iff_toInt_lt, Int32.le_iff_toInt_le, ← Int32.toInt_inj, Int32.reduceToInt, n_1, n_2, n_8, Int32.toNatClampNeg, Int64.lt_iff_toInt_lt, Int64.le_iff_toInt_le, ← Int64.toInt_inj, Int64.reduceToInt, Int32.toInt_toInt64, lg_cmp_ge, lg_cmp_le, lg_cmp_gt, lg_cmp_lt, lg_cmp_eq, Bool.false_eq_true, Bool.true_eq_false, reduceCtorEq, false_iff, true_iff, iff_true, iff_false, and_true, true_and, and_false, false_and, reduceIte, ite_true, ite_false, eq_self] at *)) <;> omega), (by first | assumption | (((try simp only [vp_in_iff, Int32.lt_iff_toInt_lt, Int32.le_iff_toInt_le, ← Int32.toInt_inj, Int32.reduceToInt, n_1, n_2, n_8, Int32.toNatClampNeg, Int64.lt_iff_toInt_lt, Int64.le_iff_toInt_le, ← Int64.toInt_inj, Int64.reduceToInt, Int32.toInt_toInt64, lg_cmp_ge, lg_cmp_le, lg_cmp_gt, lg_cmp_lt, lg_cmp_eq, Bool.false_eq_true, Bool.true_eq_false, reduceCtorEq, false_iff, true_iff, iff_true, iff_false, and_true, true_and, and_false, false_and, reduceIte, ite_true, ite_false, eq_self] at *)) <;> omega)), (by first | assumption | (((try simp only [vp_in_iff, Int32.lt_iff_toInt_lt, Int32.le_iff_toInt_le, ← Int32.toInt_inj, Int32.reduceToInt, n_1, n_2, n_8, Int32.toNatClampNeg, Int64.lt_iff_toInt_lt, Int64.le_iff_toInt_le, ← Int64.toInt_inj, Int64.reduceToInt, Int32.toInt_toInt64, lg_cmp_ge, lg_cmp_le, lg_cmp_gt, lg_cmp_lt, lg_cmp_eq, Bool.false_eq_true, Bool.true_eq_false, reduceCtorEq, false_iff, true_iff, iff_true, iff_false, and_true, true_and, and_false, false_and, reduceIte, ite_true, ite_false, eq_self] at *)) <;> omega)), trivial⟩ rfl
set_option maxHeartbeats 4000000 in
theorem sp_X8_formula_at_D (G : kG9) {d : Nat} (hd : 7 ≤ d) (σ : St) (r1 : (gi σ 18 5).toInt ≤ 2000) (r2 : (gi σ 30 7).toInt = 44) (r3 : ¬ (gi σ 30 3).toInt = 0) : Ct G M_X8_formula d [.ref 30] σ (fun r σ' => Fm [10, 11, 30] [] σ σ' ∧ ((gi σ' 30 7).toInt = 44) ∧ (¬ (gi σ' 30 3).toInt = 0) ∧ True) := by
  refine wa_start (by decide) rfl (Nat.le_of_ble_eq_true rfl) (lv := [(0, .ref 30)]) rfl o_X8_formula_0 rfl ?_
  refine wa_aload_n (i := 0) rfl rfl ?_
  refine wa_Vv (d9 := d - 1) [] [] (sp_X8_side_at_D G (d := d - 1) (by omega) σ  (by first | assumption | exact Or.inl rfl | exact Or.inr rfl | (((try simp only [vp_in_iff, Int32.lt_iff_toInt_lt, Int32.le_iff_toInt_le, ← Int32.toInt_inj, Int32.reduceToInt, n_1, n_2, n_8, Int32.toNatClampNeg, Int64.lt_iff_toInt_lt, Int64.le_iff_toInt_le, ← Int64.toInt_inj, Int64.reduceToInt, Int32.toInt_toInt64, lg_cmp_ge, lg_cmp_le, lg_cmp_gt, lg_cmp_lt, lg_cmp_eq, Bool.false_eq_true, Bool.true_eq_false, reduceCtorEq, false_iff, true_iff, iff_true, iff_false, and_true, true_and, and_false, false_and, reduceIte, ite_true, ite_false, eq_self] at *)) <;> omega)) (by first | assumption | exact Or.inl rfl | exact Or.inr rfl | (((try simp only [vp_in_iff, Int32.lt_iff_toInt_lt, Int32.le_iff_toInt_le, ← Int32.toInt_inj, Int32.reduceToInt, n_1, n_2, n_8, Int32.toNatClampNeg, Int64.lt_iff_toInt_lt, Int64.le_iff_toInt_le, ← Int64.toInt_inj, Int64.reduceToInt, Int32.toInt_toInt64, lg_cmp_ge, lg_cmp_le, lg_cmp_gt, lg_cmp_lt, lg_cmp_eq, Bool.false_eq_true, Bool.true_eq_false, reduceCtorEq, false_iff, true_iff, iff_true, iff_false, and_true, true_and, and_false, false_and, reduceIte, ite_true, ite_false, eq_self] at *)) <;> omega)) (by first | assumption | exact Or.inl rfl | exact Or.inr rfl | (((try simp only [vp_in_iff, Int32.lt_iff_toInt_lt, Int32.le_iff_toInt_le, ← Int32.toInt_inj, Int32.reduceToInt, n_1, n_2, n_8, Int32.toNatClampNeg, Int64.lt_iff_toInt_lt, Int64.le_iff_toInt_le, ← Int64.toInt_inj, Int64.reduceToInt, Int32.toInt_toInt64, lg_cmp_ge, lg_cmp_le, lg_cmp_gt, lg_cmp_lt, lg_cmp_eq, Bool.false_eq_true, Bool.true_eq_false, reduceCtorEq, false_iff, true_iff, iff_true, iff_false, and_true, true_and, and_false, false_and, reduceIte, ite_true, ite_false, eq_self] at *)) <;> omega))) (rfl) rfl rfl (zr (by omega)) mk_X8_side ly_30 ml_8_188 (Nat.le_of_ble_eq_true rfl) (fun s1 hs1 => ?_)
  obtain ⟨fs1, cx2_1, cx2_2, -⟩ := hs1
  have Fs1 : Fm [10, 11, 30] [] σ s1 := Fm.tr (Fm.rf [10, 11, 30] [] σ) (Fm.wd fs1 rfl rfl)
  refine wa_aload_n (i := 0) rfl rfl ?_
  refine wa_geti ck_8 fl_8_39 ly_30 ?_
  refine wa_istore_nD (lv' := [(1, .int (gi s1 30 7)), (0, .ref 30)]) (i := 1) rfl (by decide) rfl ?_
  refine wa_iload_n (i := 1) rfl rfl ?_
  refine wa_bipush (v := 19) (by decide) ?_
  refine wa_icmp_eq o_X8_formula_21 (by decide) (fun h3 => ?_) (fun h3 => ?_)
  · (exfalso; ((try simp only [vp_in_iff, Int32.lt_iff_toInt_lt, Int32.le_iff_toInt_le, ← Int32.toInt_inj, Int32.reduceToInt, n_1, n_2, n_8, Int32.toNatClampNeg, Int64.lt_iff_toInt_lt, Int64.le_iff_toInt_le, ← Int64.toInt_inj, Int64.reduceToInt, Int32.toInt_toInt64, lg_cmp_ge, lg_cmp_le, lg_cmp_gt, lg_cmp_lt, lg_cmp_eq, Bool.false_eq_true, Bool.true_eq_false, reduceCtorEq, false_iff, true_iff, iff_true, iff_false, and_true, true_and, and_false, false_and, reduceIte, ite_true, ite_false, eq_self] at *)) <;> omega)
  · refine wa_iload_n (i := 1) rfl rfl ?_
    refine wa_bipush (v := 20) (by decide) ?_
    refine wa_icmp_ne o_X8_formula_36 (by decide) (fun h4 => ?_) (fun h4 => ?_)
    · refine wa_return (st := []) rfl rfl ?_
      exact ⟨Fs1, (by first | assumption | (((try simp only [vp_in_iff, Int32.lt_iff_toInt_lt, Int32.le_iff_toInt_le, ← Int32.toInt_inj, Int32.reduceToInt, n_1, n_2, n_8, Int32.toNatClampNeg, Int64.lt_iff_toInt_lt, Int64.le_iff_toInt_le, ← Int64.toInt_inj, Int64.reduceToInt, Int32.toInt_toInt64, lg_cmp_ge, lg_cmp_le, lg_cmp_gt, lg_cmp_lt, lg_cmp_eq, Bool.false_eq_true, Bool.true_eq_false, reduceCtorEq, false_iff, true_iff, iff_true, iff_false, and_true, true_and, and_false, false_and, reduceIte, ite_true, ite_false, eq_self] at *)) <;> omega)), (by first | assumption | (((try simp only [vp_in_iff, Int32.lt_iff_toInt_lt, Int32.le_iff_toInt_le, ← Int32.toInt_inj, Int32.reduceToInt, n_1, n_2, n_8, Int32.toNatClampNeg, Int64.lt_iff_toInt_lt, Int64.le_iff_toInt_le, ← Int64.toInt_inj, Int64.reduceToInt, Int32.toInt_toInt64, lg_cmp_ge, lg_cmp_le, lg_cmp_gt, lg_cmp_lt, lg_cmp_eq, Bool.false_eq_true, Bool.true_eq_false, reduceCtorEq, false_iff, true_iff, iff_true, iff_false, and_true, true_and, and_false, false_and, reduceIte, ite_true, ite_false, eq_self] at *)) <;> omega)), trivial⟩
    · (exfalso; ((try simp only [vp_in_iff, Int32.lt_iff_toInt_lt, Int32.le_iff_toInt_le, ← Int32.toInt_inj, Int32.reduceToInt, n_1, n_2, n_8, Int32.toNatClampNeg, Int64.lt_iff_toInt_lt, Int64.le_iff_toInt_le, ← Int64.toInt_inj, Int64.reduceToInt, Int32.toInt_toInt64, lg_cmp_ge, lg_cmp_le, lg_cmp_gt, lg_cmp_lt, lg_cmp_eq, Bool.false_eq_true, Bool.true_eq_false, reduceCtorEq, false_iff, true_iff, iff_true, iff_false, and_true, true_and, and_false, false_and, reduceIte, ite_true, ite_false, eq_self] at *)) <;> omega)
