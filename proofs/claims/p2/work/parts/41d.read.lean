-- ===== the reference's tokens =====
def DOC9 (b : Nat → Int) (n : Nat) (σ : St) : Prop := (gi σ 84 12).toInt = n ∧ n ≤ 2000 ∧ (∀ j : Nat, j < n → (gy σ 212 j).toInt % 256 = b j) ∧ (∀ j : Nat, n ≤ j → b j = 0)
theorem DOC_of {b : Nat → Int} {n : Nat} {s s' : St} (e1 : gi s' 84 12 = gi s 84 12) (e2 : ∀ k, gy s' 212 k = gy s 212 k) (h : DOC9 b n s) : DOC9 b n s' :=
  ⟨by rw [e1]; exact h.1, h.2.1, fun j hj => by rw [e2]; exact h.2.2.1 j hj, h.2.2.2⟩
theorem doc_in {b : Nat → Int} {n : Nat} {σ : St} {i v : Int32} (P : DOC9 b n σ) (h0 : 0 ≤ i.toInt) (h1 : i.toInt < n) (e : (gy σ 212 i.toNatClampNeg).toInt32 &&& 255 = v) : v.toInt = b i.toNatClampNeg := by
  have e9 : i.toNatClampNeg = i.toInt.toNat := rfl
  rw [i_and255 e, Int8.toInt_toInt32, P.2.2.1 _ (by omega)]
theorem doc_out {b : Nat → Int} {n : Nat} {σ : St} {i : Int32} (P : DOC9 b n σ) (h0 : 0 ≤ i.toInt) (h : (n : Int) ≤ i.toInt) : (0 : Int32).toInt = b i.toNatClampNeg := by
  have e9 : i.toNatClampNeg = i.toInt.toNat := rfl
  rw [P.2.2.2 _ (by omega)]; rfl
theorem doc_lt {b : Nat → Int} {n : Nat} {σ : St} (P : DOC9 b n σ) {i : Nat} (h : ¬ b i = 0) : i < n := by
  by_cases c : i < n
  · exact c
  · exact absurd (P.2.2.2 i (by omega)) h
theorem lx_nx0 {P : Int → Bool} {b : Nat → Int} {n r : Nat} {i j : Int32} (h : lx_run P b n i.toNatClampNeg = r) (h0 : 0 ≤ i.toInt) (hj : j.toInt = i.toInt + 1) (h1 : i.toNatClampNeg < n) (hP : P (b i.toNatClampNeg) = true) : lx_run P b n j.toNatClampNeg = r := by
  have e : j.toNatClampNeg = i.toNatClampNeg + 1 := by show j.toInt.toNat = i.toInt.toNat + 1; omega
  rw [e, lx_go h1 hP, h]
/-- the same, counted from where a token begins -/
theorem lx_nxk {P : Int → Bool} {b : Nat → Int} {n p r : Nat} {k k' : Int32} (h : lx_run P b n (p + k.toNatClampNeg) = r) (h0 : 0 ≤ k.toInt) (hk : k'.toInt = k.toInt + 1) (h1 : p + k.toNatClampNeg < n) (hP : P (b (p + k.toNatClampNeg)) = true) : lx_run P b n (p + k'.toNatClampNeg) = r := by
  have e : p + k'.toNatClampNeg = p + k.toNatClampNeg + 1 := by show p + k'.toInt.toNat = p + k.toInt.toNat + 1; omega
  rw [e, lx_go h1 hP, h]
def RK1 (b : Nat → Int) (n k : Nat) (σ : St) : Prop := (gi σ 207 k).toInt = lx_pos b n k ∧ (gi σ 206 k).toInt = (lx_end b n (lx_pos b n k) : Int) - lx_pos b n k ∧ (gi σ 205 k).toInt = lx_kind b n (lx_pos b n k) ∧ (¬ lx_kind b n (lx_pos b n k) = 1 → (gi σ 204 k).toInt = lx_val b n (lx_pos b n k))
def RKN (b : Nat → Int) (n m : Nat) (σ : St) : Prop := ∀ k, k < m → RK1 b n k σ
theorem RKN_of {b : Nat → Int} {n m : Nat} {s s' : St} (e1 : ∀ k, gi s' 207 k = gi s 207 k) (e2 : ∀ k, gi s' 206 k = gi s 206 k) (e3 : ∀ k, gi s' 205 k = gi s 205 k) (e4 : ∀ k, gi s' 204 k = gi s 204 k) (h : RKN b n m s) : RKN b n m s' := fun k hk => by
  unfold RK1; rw [e1, e2, e3, e4]; exact h k hk
/-- a write at the token that is at hand leaves those ahead of it -/
theorem rkn_w {b : Nat → Int} {n m k : Nat} {s s' : St} {q : Nat} {v : Int32} (e : s' = si s q k v) (hk : k = m) (h : RKN b n m s) : RKN b n m s' := fun j hj => by
  have c : ¬ j = k := by omega
  have f : ∀ q', gi s' q' j = gi s q' j := fun q' => by
    rw [e]; simp only [gi, si, up2]; rw [if_neg (fun z => c z.2)]
  unfold RK1; rw [f, f, f, f]; exact h j hj
def TXE (q : Nat × String × Nat × String × Nat × List Int32) (b : Nat → Int) (p s : Nat) : Prop := s = q.2.2.2.2.1 ∧ ∀ j : Nat, j < q.2.2.2.2.1 → b (p + j) = (q.2.2.2.2.2.getD j 0).toInt
/-- the words of the reference are texts 0 to 14 -/
theorem kq_at {k : Nat} (h : k < 28) : ∃ q, q ∈ kSq ∧ q.1 = k ∧ kSq[k]? = some q := by
  have key : ∀ k : Fin 28, ∃ q, kSq[k.1]? = some q ∧ q.1 = k.1 := by
    intro k
    have : ∀ k : Fin 28, (kSq[k.1]?).any (fun q => q.1 == k.1) = true := by decide +kernel
    have h1 := this k
    cases e : kSq[k.1]? with
    | none => rw [e] at h1; exact absurd h1 (by simp)
    | some q => rw [e] at h1; exact ⟨q, rfl, by simpa using h1⟩
  obtain ⟨q, h1, h2⟩ := key ⟨k, h⟩
  exact ⟨q, List.mem_of_getElem? h1, h2, h1⟩
def lx_chk (w : Nat) : Bool := (kSq[w]?).any (fun q => decide (lx_nm (fun j => (q.2.2.2.2.2.getD j 0).toInt) 0 q.2.2.2.2.1 = lx_wl.getD (w - 1) 0) && (List.range q.2.2.2.2.1).all (fun j => decide (0 < (q.2.2.2.2.2.getD j 0).toInt ∧ (q.2.2.2.2.2.getD j 0).toInt < 256)))
theorem lx_txt {w : Nat} {q : Nat × String × Nat × String × Nat × List Int32} (h1 : 1 ≤ w) (h2 : w ≤ 14) (hq : kSq[w]? = some q) {b : Nat → Int} {p s : Nat} (hb : ∀ j, j < s → 0 < b (p + j) ∧ b (p + j) < 256) : TXE q b p s ↔ lx_wl.getD (w - 1) 0 = lx_nm b p s := by
  have key : ∀ k : Fin 15, 1 ≤ k.1 → lx_chk k.1 = true := by decide +kernel
  have h := key ⟨w, by omega⟩ h1
  simp only [lx_chk, hq, Option.any_some, Bool.and_eq_true, decide_eq_true_eq, List.all_eq_true, List.mem_range] at h
  constructor
  · rintro ⟨e1, e2⟩
    rw [← h.1, e1]
    exact (lx_nm_congr b _ p 0 _ (fun j hj => by rw [Nat.zero_add]; exact e2 j hj)).symm
  · intro e
    rw [← h.1] at e
    obtain ⟨e1, e2⟩ := lx_nm_inj _ b 0 p _ s (fun j hj => by rw [Nat.zero_add]; exact h.2 j hj) hb e
    exact ⟨e1.symm, fun j hj => by have := e2 j hj; rw [Nat.zero_add] at this; exact this.symm⟩
theorem wa_rwR {G : kG9} {M : MT} {Z : ZT} {B : Blk} {lv : List (Nat × Value)} {st : List Value} {σ : St} {a c : Nat} (e : a = c) (kk : WA G M Z B lv (.ref c :: st) σ) : WA G M Z B lv (.ref a :: st) σ := e ▸ kk
theorem doc_in2 {b : Nat → Int} {n : Nat} {σ : St} {i v : Int32} (e : (gy σ 212 i.toNatClampNeg).toInt32 &&& 255 = v) (P : DOC9 b n σ) (h0 : 0 ≤ i.toInt) (h1 : i.toInt < n) : v.toInt = b i.toNatClampNeg := doc_in P h0 h1 e
theorem txe_no1 {q : Nat × String × Nat × String × Nat × List Int32} {b : Nat → Int} {p : Nat} {v x : Int32} (hx : x.toInt = (q.2.2.2.2.1 : Int) ∧ x.toInt ≤ 160) (h : ¬ v = x) (h0 : 0 ≤ v.toInt) : false = true ↔ TXE q b p v.toInt.toNat := ⟨fun e => (nomatch e), fun e => absurd (Int32.toInt_inj.mp (by have := e.1; omega)) h⟩
theorem txe_no2 {q : Nat × String × Nat × String × Nat × List Int32} {b : Nat → Int} {p s Y : Nat} {i x1 x2 : Int32} (hx1 : x1.toInt = b Y) (hx2 : x2 = q.2.2.2.2.2.getD i.toNatClampNeg 0 ∧ 0 ≤ x2.toInt ∧ x2.toInt < 128) (hne : ¬ x1 = x2) (hY : Y = p + i.toNatClampNeg) (hi : i.toNatClampNeg < q.2.2.2.2.1) : false = true ↔ TXE q b p s := ⟨fun e => (nomatch e), fun e => absurd (Int32.toInt_inj.mp (by rw [hx1, hY, e.2 _ hi, ← hx2.1])) hne⟩
theorem txe_st {q : Nat × String × Nat × String × Nat × List Int32} {b : Nat → Int} {p Y : Nat} {i i' x1 x2 : Int32} (h : ∀ j : Nat, (j : Int) < i.toInt → b (p + j) = (q.2.2.2.2.2.getD j 0).toInt) (hx1 : x1.toInt = b Y) (hx2 : x2 = q.2.2.2.2.2.getD i.toNatClampNeg 0 ∧ 0 ≤ x2.toInt ∧ x2.toInt < 128) (he : x1 = x2) (hY : Y = p + i.toNatClampNeg) (h0 : 0 ≤ i.toInt) (hj : i'.toInt = i.toInt + 1) : ∀ j : Nat, (j : Int) < i'.toInt → b (p + j) = (q.2.2.2.2.2.getD j 0).toInt := fun j hj' => by
  have e9 : i.toNatClampNeg = i.toInt.toNat := rfl
  by_cases c : (j : Int) < i.toInt
  · exact h j c
  · have : j = i.toNatClampNeg := by omega
    rw [this, ← hY, ← hx1, he, hx2.1]
theorem txe_yes {q : Nat × String × Nat × String × Nat × List Int32} {b : Nat → Int} {p : Nat} {v i : Int32} (hs : v.toInt = (q.2.2.2.2.1 : Int)) (h : ∀ j : Nat, (j : Int) < i.toInt → b (p + j) = (q.2.2.2.2.2.getD j 0).toInt) (hi : (q.2.2.2.2.1 : Int) ≤ i.toInt) : true = true ↔ TXE q b p v.toInt.toNat := ⟨fun _ => ⟨by omega, fun j hj => h j (by omega)⟩, fun _ => rfl⟩
theorem lx_fin0 {P : Int → Bool} {b : Nat → Int} {n i r : Nat} (h : lx_run P b n i = r) (hs : ¬ (i < n ∧ P (b i) = true)) : i = r := by rw [lx_stop hs] at h; exact h
/-- tokens of the reference behind a scan -/
def TOKR (b : Nat → Int) (n m : Nat) (σ : St) : Prop := LXM b n m ∧ m ≤ 2000 ∧ (gi σ 84 27).toInt = m ∧ RKN b n m σ ∧ (¬ (0 < m ∧ lx_kind b n (lx_pos b n (m - 1)) = 1) → (gi σ 205 m).toInt = 0)
def SCN (b : Nat → Int) (n k : Nat) (i : Int) (mo : Bool) (s : St) : Prop := (∀ j, j < k → lx_pos b n j < n) ∧ ((mo = true ∧ RKN b n k s ∧ lx_run lx_bl b n i.toNat = lx_pos b n k ∧ ∀ j, j < k → ¬ lx_kind b n (lx_pos b n j) = 1) ∨ (mo = false ∧ TOKR b n k s))
theorem scn_0 {b : Nat → Int} {n k : Nat} {i : Int} {s : St} (hk : k = 0) (hi : i = 0) : SCN b n k i true s := by
  subst hk; subst hi
  exact ⟨fun j hj => absurd hj (Nat.not_lt_zero j), Or.inl ⟨rfl, fun j hj => absurd hj (Nat.not_lt_zero j), rfl, fun j hj => absurd hj (Nat.not_lt_zero j)⟩⟩
theorem scn_t {b : Nat → Int} {n k : Nat} {i : Int} {s : St} {mo : Bool} (h : SCN b n k i mo s) (hm : mo = true) : RKN b n k s ∧ lx_run lx_bl b n i.toNat = lx_pos b n k ∧ (∀ j, j < k → ¬ lx_kind b n (lx_pos b n j) = 1) ∧ (∀ j, j < k → lx_pos b n j < n) := by
  rcases h.2 with c | c
  · exact ⟨c.2.1, c.2.2.1, c.2.2.2, h.1⟩
  · rw [hm] at c; exact absurd c.1 (by decide)
theorem scn_f {b : Nat → Int} {n k : Nat} {i : Int} {s : St} {mo : Bool} (h : SCN b n k i mo s) (hm : mo = false) : TOKR b n k s := by
  rcases h.2 with c | c
  · rw [hm] at c; exact absurd c.1 (by decide)
  · exact c.2
theorem scn_le {b : Nat → Int} {n k : Nat} (h : ∀ j, j < k → lx_pos b n j < n) (hn : n ≤ 2000) : k ≤ 2000 ∧ (lx_pos b n k < n → k < 2000) := by
  have h2 := lx_pos_ge b n k h
  refine ⟨?_, fun h3 => by omega⟩
  cases k with
  | zero => omega
  | succ k =>
    have h3 := lx_pos_ge b n k (fun j hj => h j (by omega))
    have := h k (by omega)
    omega
/-- the text ends -/
theorem scn_end {b : Nat → Int} {n k : Nat} {i : Int} {s : St} (hr : RKN b n k s) (hp : ∀ j, j < k → lx_pos b n j < n) (hb : ∀ j, j < k → ¬ lx_kind b n (lx_pos b n j) = 1) (hi : n ≤ lx_pos b n k) (hn : n ≤ 2000) (ht : (gi s 84 27).toInt = k) (h0 : (gi s 205 k).toInt = 0) : SCN b n k i false s :=
  ⟨hp, Or.inr ⟨rfl, ⟨hp, fun j hj => hb j (by omega), Or.inl hi⟩, (scn_le hp hn).1, ht, hr, fun _ => h0⟩⟩
/-- what a token is, ahead of its being looked for among the words -/
def KIN (b : Nat → Int) (n p : Nat) (sz k0 v0 : Int) : Prop := sz = (lx_end b n p : Int) - p ∧ (((lx_kind b n p = 4 ∨ lx_kind b n p = 3) ∧ k0 = 3 ∧ v0 = 0 ∧ lx_le (b p) = true ∧ sz ≤ 8) ∨ (¬ lx_kind b n p = 4 ∧ ¬ lx_kind b n p = 3 ∧ k0 = lx_kind b n p ∧ (¬ k0 = 1 → v0 = lx_val b n p)))
theorem kin_word {b : Nat → Int} {n p : Nat} {x k : Int32} {k0 v0 : Int} (hl : lx_le x.toInt = true) (hx : x.toInt = b p) (hr : lx_run lx_ld b n (p + k.toNatClampNeg) = lx_run lx_ld b n p) (hs : ¬ (p + k.toNatClampNeg < n ∧ lx_ld (b (p + k.toNatClampNeg)) = true)) (h0 : 0 ≤ k.toInt) (hv : v0 = 0) (hk : (8 < k.toInt ∧ k0 = 1) ∨ (k.toInt ≤ 8 ∧ k0 = 3)) : KIN b n p k.toInt k0 v0 := by
  have e9 : k.toNatClampNeg = k.toInt.toNat := rfl
  have hl' : lx_le (b p) = true := hx ▸ hl
  have hE := lx_fin0 hr hs
  have q : lx_end b n p = lx_run lx_ld b n p := by rw [lx_end, if_pos hl']
  refine ⟨by omega, ?_⟩
  rcases hk with ⟨c1, c2⟩ | ⟨c1, c2⟩
  · refine Or.inr ?_
    have z : lx_kind b n p = 1 := by rw [lx_kind, if_pos hl', if_pos (by omega)]
    rw [z]
    exact ⟨by decide, by decide, c2, fun g => absurd c2 g⟩
  · refine Or.inl ⟨?_, c2, hv, hl', c1⟩
    rw [lx_kind, if_pos hl', if_neg (by omega)]
    split
    · exact Or.inl rfl
    · exact Or.inr rfl
theorem kin_digit {b : Nat → Int} {n p : Nat} {x k v : Int32} {k0 : Int} (hl : lx_dg x.toInt = true) (hx : x.toInt = b p) (hr : lx_run lx_dg b n (p + k.toNatClampNeg) = lx_run lx_dg b n p) (hs : ¬ (p + k.toNatClampNeg < n ∧ lx_dg (b (p + k.toNatClampNeg)) = true)) (h0 : 0 ≤ k.toInt) (hv : k.toInt ≤ 6 → v.toInt = lx_dec b p k.toNatClampNeg) (hk : (k0 = 1 ∧ (6 < k.toInt ∨ lx_le (b (p + k.toNatClampNeg)) = true)) ∨ (k0 = 2 ∧ k.toInt ≤ 6 ∧ ¬ lx_le (b (p + k.toNatClampNeg)) = true)) : KIN b n p k.toInt k0 v.toInt := by
  have e9 : k.toNatClampNeg = k.toInt.toNat := rfl
  have hl' : lx_dg (b p) = true := hx ▸ hl
  have hnl : ¬ lx_le (b p) = true := fun q => by
    have a := lx_le_iff.mp q
    have c := lx_dg_iff.mp hl'
    omega
  have hE := lx_fin0 hr hs
  have hE2 : lx_run lx_dg b n p - p = k.toNatClampNeg := by omega
  have q : lx_end b n p = lx_run lx_dg b n p := by rw [lx_end, if_neg hnl, if_pos hl']
  refine ⟨by omega, Or.inr ?_⟩
  rcases hk with ⟨c1, c2⟩ | ⟨c1, c2, c3⟩
  · have z : lx_kind b n p = 1 := by
      rw [lx_kind, if_neg hnl, if_pos hl', ← hE, if_pos (c2.imp (fun g => by omega) id)]
    rw [z]
    exact ⟨by decide, by decide, c1, fun g => absurd c1 g⟩
  · have z : lx_kind b n p = 2 := by
      rw [lx_kind, if_neg hnl, if_pos hl', ← hE, if_neg (fun g => g.elim (fun g => by omega) c3)]
    rw [z]
    refine ⟨by decide, by decide, c1, fun _ => ?_⟩
    rw [lx_val, if_neg hnl, if_pos hl', hE2]; exact hv c2
theorem kin_sign {b : Nat → Int} {n p : Nat} {x y : Int32} {sz k0 v0 : Int} (hl : ¬ lx_le x.toInt = true) (hd : ¬ lx_dg x.toInt = true) (hx : x.toInt = b p) (hy : y.toInt = b (p + 1)) (h : (0 < lx_two x.toInt y.toInt ∧ sz = 2 ∧ k0 = 5 ∧ v0 = lx_two x.toInt y.toInt) ∨ (¬ 0 < lx_two x.toInt y.toInt ∧ sz = 1 ∧ v0 = lx_one x.toInt ∧ ((0 < lx_one x.toInt ∧ k0 = 5) ∨ (¬ 0 < lx_one x.toInt ∧ k0 = 1)))) : KIN b n p sz k0 v0 := by
  rw [hx] at hl hd
  rw [hx, hy] at h
  rcases h with ⟨c1, c2, c3, c4⟩ | ⟨c1, c2, c3, c4⟩
  · have q : lx_end b n p = p + 2 := by rw [lx_end, if_neg hl, if_neg hd, if_pos c1]
    have z : lx_kind b n p = 5 := by rw [lx_kind, if_neg hl, if_neg hd, if_pos c1]
    refine ⟨by rw [q]; push_cast; omega, Or.inr ?_⟩
    rw [z]
    exact ⟨by decide, by decide, c3, fun _ => by rw [lx_val, if_neg hl, if_neg hd, if_pos c1]; exact c4⟩
  · have q : lx_end b n p = p + 1 := by rw [lx_end, if_neg hl, if_neg hd, if_neg c1]
    have v9 : lx_val b n p = lx_one (b p) := by rw [lx_val, if_neg hl, if_neg hd, if_neg c1]
    refine ⟨by rw [q]; push_cast; omega, Or.inr ?_⟩
    rcases c4 with ⟨d1, d2⟩ | ⟨d1, d2⟩
    · have z : lx_kind b n p = 5 := by rw [lx_kind, if_neg hl, if_neg hd, if_neg c1, if_pos d1]
      rw [z, v9]
      exact ⟨by decide, by decide, d2, fun _ => c3⟩
    · have z : lx_kind b n p = 1 := by rw [lx_kind, if_neg hl, if_neg hd, if_neg c1, if_neg d1]
      rw [z]
      exact ⟨by decide, by decide, d2, fun g => absurd d2 g⟩
/-- the loop over the words -/
def WKR (N k0 v0 w kd tk tv : Int) : Prop := (¬ k0 = 3 ∧ kd = k0 ∧ tk = k0 ∧ tv = v0) ∨ (k0 = 3 ∧ ((kd = 3 ∧ tk = 3 ∧ tv = v0 ∧ ∀ j : Nat, 1 ≤ j → (j : Int) < w → ¬ lx_wl.getD (j - 1) 0 = N) ∨ (kd = 4 ∧ tk = 4 ∧ tv = lx_word N ∧ 0 < lx_word N)))
def TKW (b : Nat → Int) (n k : Nat) (i sz w kd : Int) (s : St) : Prop := RKN b n k s ∧ (gi s 207 k).toInt = lx_pos b n k ∧ i = lx_pos b n k ∧ (gi s 206 k).toInt = sz ∧ ∃ k0 v0, KIN b n (lx_pos b n k) sz k0 v0 ∧ WKR (lx_nm b (lx_pos b n k) sz.toNat) k0 v0 w kd (gi s 205 k).toInt (gi s 204 k).toInt
theorem tkw_0 {b : Nat → Int} {n k : Nat} {i sz w kd v0 : Int} {s : St} (K : RKN b n k s) (h1 : (gi s 207 k).toInt = i) (h2 : i = lx_pos b n k) (h3 : (gi s 206 k).toInt = sz) (h4 : (gi s 205 k).toInt = kd) (h5 : (gi s 204 k).toInt = v0) (hk : KIN b n (lx_pos b n k) sz kd v0) (hw : w ≤ 1) : TKW b n k i sz w kd s := by
  refine ⟨K, h1.trans h2, h2, h3, kd, v0, hk, ?_⟩
  by_cases c : kd = 3
  · exact Or.inr ⟨c, Or.inl ⟨c, h4.trans c, h5, fun j hj hj2 => by omega⟩⟩
  · exact Or.inl ⟨c, rfl, h4, h5⟩
theorem tkw_name {b : Nat → Int} {n k : Nat} {i sz w kd : Int} {s : St} (h : TKW b n k i sz w kd s) (hk : kd = 3) : lx_le (b (lx_pos b n k)) = true ∧ sz ≤ 8 ∧ 0 ≤ sz ∧ ∀ j, j < sz.toNat → 0 < b (lx_pos b n k + j) ∧ b (lx_pos b n k + j) < 256 := by
  obtain ⟨-, -, -, -, k0, v0, ⟨e, c⟩, g⟩ := h
  have h3 : k0 = 3 := by
    rcases g with g | g
    · omega
    · exact g.1
  rcases c with c | c
  · have q : lx_end b n (lx_pos b n k) = lx_run lx_ld b n (lx_pos b n k) := by rw [lx_end, if_pos c.2.2.2.1]
    have a := lx_ge lx_ld b n (lx_pos b n k)
    refine ⟨c.2.2.2.1, c.2.2.2.2, by omega, fun j hj => ?_⟩
    have := lx_ld_iff.mp (lx_in lx_ld b n (lx_pos b n k) (lx_pos b n k + j) (by omega) (by omega))
    omega
  · exfalso
    have : lx_kind b n (lx_pos b n k) = 3 := by omega
    exact c.2.1 this
theorem tkw_ne {b : Nat → Int} {n k : Nat} {i sz w w' kd : Int} {s : St} (h : TKW b n k i sz w kd s) (hk : kd = 3) (h1 : 1 ≤ w) (hw : w' = w + 1) (hn : ¬ lx_wl.getD (w.toNat - 1) 0 = lx_nm b (lx_pos b n k) sz.toNat) : TKW b n k i sz w' kd s := by
  obtain ⟨a, c, d, e, k0, v0, f, g⟩ := h
  refine ⟨a, c, d, e, k0, v0, f, ?_⟩
  rcases g with g | ⟨g0, g | g⟩
  · exact Or.inl g
  · refine Or.inr ⟨g0, Or.inl ⟨g.1, g.2.1, g.2.2.1, fun j j1 j2 => ?_⟩⟩
    by_cases q : (j : Int) < w
    · exact g.2.2.2 j j1 q
    · rw [show j - 1 = w.toNat - 1 from by omega]; exact hn
  · omega
theorem tkw_eq {b : Nat → Int} {n k q1 q2 : Nat} {i sz w w' kd kd' : Int} {s s1 s2 : St} {v1 v2 : Int32} (e1 : s1 = si s 205 q1 v1) (e2 : s2 = si s1 204 q2 v2) (h : TKW b n k i sz w kd s) (h1 : q1 = k) (h2 : q2 = k) (hv1 : v1.toInt = 4) (hv2 : v2.toInt = w) (hk : kd = 3) (hk' : kd' = 4) (hw : 1 ≤ w) (hw2 : w ≤ 14) (hn : lx_wl.getD (w.toNat - 1) 0 = lx_nm b (lx_pos b n k) sz.toNat) : TKW b n k i sz w' kd' s2 := by
  subst h1; subst h2
  obtain ⟨a, c, d, e, k0, v0, f, g⟩ := h
  have f7 : gi s2 207 q2 = gi s 207 q2 := by rw [e2, e1]; simp [gi, si, up2]
  have f6 : gi s2 206 q2 = gi s 206 q2 := by rw [e2, e1]; simp [gi, si, up2]
  have f5 : gi s2 205 q2 = v1 := by rw [e2, e1]; simp [gi, si, up2]
  have f4 : gi s2 204 q2 = v2 := by rw [e2]; simp [gi, si, up2]
  refine ⟨rkn_w e2 rfl (rkn_w e1 rfl a), by rw [f7]; exact c, d, by rw [f6]; exact e, k0, v0, f, ?_⟩
  rw [f5, f4]
  rcases g with g | ⟨g0, g | g⟩
  · omega
  · have key : lx_word (lx_nm b (lx_pos b n q2) sz.toNat) = 1 + ((w.toNat - 1 : Nat) : Int) := lx_find_some lx_wl 1 (w.toNat - 1) (by show w.toNat - 1 < 14; omega) hn (fun j hj => by
      have := g.2.2.2 (j + 1) (by omega) (by omega)
      simpa using this)
    exact Or.inr ⟨g0, Or.inr ⟨hk', hv1, by omega, by omega⟩⟩
  · omega
theorem tkw_end {b : Nat → Int} {n k : Nat} {i sz w kd : Int} {s : St} (h : TKW b n k i sz w kd s) (hw : 15 ≤ w ∨ ¬ kd = 3) : RKN b n (k + 1) s ∧ i + sz = lx_end b n (lx_pos b n k) ∧ (kd = 1 ↔ lx_kind b n (lx_pos b n k) = 1) ∧ lx_pos b n k = i.toNat ∧ 0 ≤ i ∧ 0 ≤ sz := by
  obtain ⟨a, c, d, e, k0, v0, ⟨f1, f⟩, g⟩ := h
  have ge9 : (lx_pos b n k : Int) ≤ lx_end b n (lx_pos b n k) := by
    have : lx_pos b n k ≤ lx_end b n (lx_pos b n k) := by
      unfold lx_end
      split
      · exact lx_ge _ _ _ _
      · split
        · exact lx_ge _ _ _ _
        · split <;> omega
    omega
  have main : RK1 b n k s ∧ (kd = 1 ↔ lx_kind b n (lx_pos b n k) = 1) := by
    unfold RK1
    rw [e, f1]
    rcases f with ⟨f2, f3, f4, f5, f6⟩ | ⟨f2, f3, f4, f5⟩
    · have q : lx_end b n (lx_pos b n k) = lx_run lx_ld b n (lx_pos b n k) := by rw [lx_end, if_pos f5]
      have hsz : lx_run lx_ld b n (lx_pos b n k) - lx_pos b n k = sz.toNat := by omega
      have z : lx_kind b n (lx_pos b n k) = if 0 < lx_word (lx_nm b (lx_pos b n k) sz.toNat) then 4 else 3 := by rw [lx_kind, if_pos f5, hsz, if_neg (by omega)]
      have z2 : lx_val b n (lx_pos b n k) = lx_word (lx_nm b (lx_pos b n k) sz.toNat) := by rw [lx_val, if_pos f5, hsz, if_neg (by omega)]
      rcases g with g | ⟨g0, g | g⟩
      · omega
      · have hN : lx_word (lx_nm b (lx_pos b n k) sz.toNat) = 0 := lx_find_none lx_wl 1 (fun j hj => by
          have := g.2.2.2 (j + 1) (by omega) (by have : j < 14 := hj; omega)
          simpa using this)
        rw [hN] at z z2
        rw [if_neg (by decide)] at z
        rw [z, z2]
        exact ⟨⟨c, rfl, g.2.1, fun _ => g.2.2.1.trans f4⟩, by omega⟩
      · rw [if_pos g.2.2.2] at z
        rw [z, z2]
        exact ⟨⟨c, rfl, g.2.1, fun _ => g.2.2.1⟩, by omega⟩
    · rcases g with ⟨g1, g2, g3, g4⟩ | ⟨g0, g⟩
      · refine ⟨⟨c, rfl, g3.trans f4, fun q => g4.trans (f5 (by rw [f4]; exact q))⟩, by rw [g2, f4]⟩
      · omega
  refine ⟨fun j hj => ?_, by omega, main.2, by omega, by omega, by omega⟩
  by_cases q : j = k
  · rw [q]; exact main.1
  · exact a j (by omega)
theorem scn_next {b : Nat → Int} {n k k' : Nat} {i' : Int} {s s' : St} {kd : Int} (hr : RKN b n (k + 1) s') (hp : ∀ j, j < k → lx_pos b n j < n) (hb : ∀ j, j < k → ¬ lx_kind b n (lx_pos b n j) = 1) (hi : lx_pos b n k < n) (hn : n ≤ 2000) (he : i' = lx_end b n (lx_pos b n k)) (hk' : k' = k + 1) (ht : (gi s' 84 27).toInt = k + 1) (hq : kd = 1 ↔ lx_kind b n (lx_pos b n k) = 1) (mo : Bool) (hm : (mo = true ∧ ¬ kd = 1) ∨ (mo = false ∧ kd = 1)) : SCN b n k' i' mo s' := by
  subst hk'
  have hp' : ∀ j, j < k + 1 → lx_pos b n j < n := fun j hj => by
    by_cases c : j = k
    · rw [c]; exact hi
    · exact hp j (by omega)
  refine ⟨hp', ?_⟩
  rcases hm with ⟨m1, m2⟩ | ⟨m1, m2⟩
  · refine Or.inl ⟨m1, hr, by rw [he]; rfl, fun j hj => ?_⟩
    by_cases c : j = k
    · rw [c]; exact fun q => m2 (hq.mpr q)
    · exact hb j (by omega)
  · refine Or.inr ⟨m1, ⟨hp', fun j hj => hb j (by omega), Or.inr ⟨by omega, by simpa using hq.mp m2⟩⟩, (scn_le hp' hn).1, by push_cast; exact ht, hr, fun q => absurd ⟨by omega, by simpa using hq.mp m2⟩ q⟩
theorem tkw_txt {b : Nat → Int} {n k w9 : Nat} {i sz w kd : Int} {s : St} {q : Nat × String × Nat × String × Nat × List Int32} (h : TKW b n k i sz w kd s) (hk : kd = 3) (hq : kSq[w9]? = some q) (h1 : 1 ≤ w9) (h2 : w9 ≤ 14) : TXE q b (lx_pos b n k) (gi s 206 k).toInt.toNat ↔ lx_wl.getD (w9 - 1) 0 = lx_nm b (lx_pos b n k) sz.toNat := by
  have a := tkw_name h hk
  rw [h.2.2.2.1]
  exact lx_txt h1 h2 hq a.2.2.2
theorem ld_nz {c : Int} (h : lx_ld c = true) : ¬ c = 0 := fun e => by rw [e] at h; exact absurd h (by decide)
theorem dg_nz {c : Int} (h : lx_dg c = true) : ¬ c = 0 := fun e => by rw [e] at h; exact absurd h (by decide)
theorem bl_nz {c : Int} (h : lx_bl c = true) : ¬ c = 0 := fun e => by rw [e] at h; exact absurd h (by decide)
theorem lx_dec_1 {b : Nat → Int} {p : Nat} {x v : Int32} (hd : lx_dg x.toInt = true) (hv : x - 48 = v) (hx : x.toInt = b p) : v.toInt = lx_dec b p 1 := by
  have a := lx_dg_iff.mp hd
  have t3 := i_subT hv
  simp only [Int32.reduceToInt] at t3
  show v.toInt = 10 * 0 + (b (p + 0) - 48)
  rw [Nat.add_zero, ← hx]; omega
theorem lx_dec_stepk {b : Nat → Int} {n p : Nat} {x y1 y2 y3 v k k' : Int32} (h3 : y2 - 48 = y3) (h2 : y1 + v = y2) (h1 : 10 * x = y1) (hv : v.toInt = b (p + k.toNatClampNeg)) (hN : k.toInt ≤ 6 → x.toInt = lx_dec b p k.toNatClampNeg) (hr : lx_run lx_dg b n (p + k.toNatClampNeg) = lx_run lx_dg b n p) (h0 : 0 ≤ k.toInt) (h6 : k.toInt < 6) (hl : lx_dg (b (p + k.toNatClampNeg)) = true) (hj : k'.toInt = k.toInt + 1) : k'.toInt ≤ 6 → y3.toInt = lx_dec b p k'.toNatClampNeg := fun h8 => by
  have hN' := hN (by omega)
  have e9 : k.toNatClampNeg = k.toInt.toNat := rfl
  have e : k'.toNatClampNeg = k.toNatClampNeg + 1 := by show k'.toInt.toNat = k.toInt.toNat + 1; omega
  have hb := lx_dec_bd b p k.toNatClampNeg (fun q hq => by
    have a := lx_ge lx_dg b n (p + k.toNatClampNeg)
    exact lx_in lx_dg b n p (p + q) (by omega) (by omega))
  have hl' := lx_dg_iff.mp hl
  have hp : (10 : Int) ^ k.toNatClampNeg ≤ 10 ^ 5 := by
    have := Nat.pow_le_pow_right (n := 10) (by decide) (show k.toNatClampNeg ≤ 5 from by omega)
    exact_mod_cast this
  have t1 := i_mulT h1
  have t2 := i_addT h2
  have t3 := i_subT h3
  simp only [Int32.reduceToInt] at t1 t3
  rw [e, lx_dec]
  omega
set_option maxHeartbeats 4000000 in
theorem sp_X12_isLetter_at_F (G : kG9) {d : Nat} (hd : 1 ≤ d) (σ : St) (a0 : Int32) : Ct G M_X12_isLetter d [.int a0] σ (fun r σ' => ∃ x : Bool, r = some (.int (bI x)) ∧ σ = σ' ∧ (x = true ↔ lx_le a0.toInt = true) ∧ True) := by
  refine wa_start (by decide) rfl (Nat.le_of_ble_eq_true rfl) (lv := [(0, .int a0)]) rfl o_X12_isLetter_0 rfl ?_
  have ua0 := Int32.toInt_lt a0
  have wa0 := Int32.le_toInt a0
  refine wa_iload_n (i := 0) rfl rfl ?_
  refine wa_i2l ?_
  refine wa_ldc2 (v := (97)) (allW_in (kT_12 _ (List.mem_of_getElem? (i := 153) rfl)) rfl) ?_
  refine wa_ldc2 (v := (122)) (allW_in (kT_12 _ (List.mem_of_getElem? (i := 154) rfl)) rfl) ?_
  refine wa_Si (d9 := d - 1) [.long _, .long _, .long _] [] (sp_X12_in G (d := d - 1) (by omega) σ _ _ _) (rfl) rfl rfl (zr (by omega)) mk_X12_in ml_12_504 (Nat.le_of_ble_eq_true rfl) (fun x2 s1 hs1 => ?_)
  obtain ⟨bx2, ex2, zs1, cx2_1, -⟩ := pB hs1
  subst ex2
  subst zs1
  refine wa_if_ne o_X12_isLetter_28 (by decide) (fun h3 => ?_) (fun h3 => ?_)
  · replace h3 := bI_t (b := bx2) (rfl) h3
    have uh3_0 := iff_t cx2_1 h3
    refine wa_iconst (v := 1) (by decide) ?_
    refine wa_goto o_X12_isLetter_33 (by decide) ?_
    refine wa_zreturn true (rfl) rfl rfl ?_
    exact ⟨_, rfl, rfl, (by rw [lx_le_iff]; ((try simp only [vp_in_iff, Int32.lt_iff_toInt_lt, Int32.le_iff_toInt_le, ← Int32.toInt_inj, Int32.reduceToInt, n_1, n_2, n_8, Int32.toNatClampNeg, Int64.lt_iff_toInt_lt, Int64.le_iff_toInt_le, ← Int64.toInt_inj, Int64.reduceToInt, Int32.toInt_toInt64, lg_cmp_ge, lg_cmp_le, lg_cmp_gt, lg_cmp_lt, lg_cmp_eq, Bool.false_eq_true, Bool.true_eq_false, reduceCtorEq, false_iff, true_iff, iff_true, iff_false, and_true, true_and, and_false, false_and, reduceIte, ite_true, ite_false, eq_self] at *)) <;> omega), trivial⟩
  · replace h3 := bI_f (b := bx2) (rfl) h3
    have uh3_0 := iff_f cx2_1 h3
    refine wa_iload_n (i := 0) rfl rfl ?_
    refine wa_i2l ?_
    refine wa_ldc2 (v := (65)) (allW_in (kT_12 _ (List.mem_of_getElem? (i := 155) rfl)) rfl) ?_
    refine wa_ldc2 (v := (90)) (allW_in (kT_12 _ (List.mem_of_getElem? (i := 156) rfl)) rfl) ?_
    refine wa_Si (d9 := d - 1) [.long _, .long _, .long _] [] (sp_X12_in G (d := d - 1) (by omega) σ _ _ _) (rfl) rfl rfl (zr (by omega)) mk_X12_in ml_12_504 (Nat.le_of_ble_eq_true rfl) (fun x5 s4 hs4 => ?_)
    obtain ⟨bx5, ex5, zs4, cx5_1, -⟩ := pB hs4
    subst ex5
    subst zs4
    refine wa_if_eq o_X12_isLetter_32 (by decide) (fun h6 => ?_) (fun h6 => ?_)
    · replace h6 := bI_f (b := bx5) (rfl) h6
      have uh6_0 := iff_f cx5_1 h6
      refine wa_iconst (v := 0) (by decide) ?_
      refine wa_zreturn false (rfl) rfl rfl ?_
      exact ⟨_, rfl, rfl, (by rw [lx_le_iff]; ((try simp only [vp_in_iff, Int32.lt_iff_toInt_lt, Int32.le_iff_toInt_le, ← Int32.toInt_inj, Int32.reduceToInt, n_1, n_2, n_8, Int32.toNatClampNeg, Int64.lt_iff_toInt_lt, Int64.le_iff_toInt_le, ← Int64.toInt_inj, Int64.reduceToInt, Int32.toInt_toInt64, lg_cmp_ge, lg_cmp_le, lg_cmp_gt, lg_cmp_lt, lg_cmp_eq, Bool.false_eq_true, Bool.true_eq_false, reduceCtorEq, false_iff, true_iff, iff_true, iff_false, and_true, true_and, and_false, false_and, reduceIte, ite_true, ite_false, eq_self] at *)) <;> omega), trivial⟩
    · replace h6 := bI_t (b := bx5) (rfl) h6
      have uh6_0 := iff_t cx5_1 h6
      refine wa_iconst (v := 1) (by decide) ?_
      refine wa_goto o_X12_isLetter_33 (by decide) ?_
      refine wa_zreturn true (rfl) rfl rfl ?_
      exact ⟨_, rfl, rfl, (by rw [lx_le_iff]; ((try simp only [vp_in_iff, Int32.lt_iff_toInt_lt, Int32.le_iff_toInt_le, ← Int32.toInt_inj, Int32.reduceToInt, n_1, n_2, n_8, Int32.toNatClampNeg, Int64.lt_iff_toInt_lt, Int64.le_iff_toInt_le, ← Int64.toInt_inj, Int64.reduceToInt, Int32.toInt_toInt64, lg_cmp_ge, lg_cmp_le, lg_cmp_gt, lg_cmp_lt, lg_cmp_eq, Bool.false_eq_true, Bool.true_eq_false, reduceCtorEq, false_iff, true_iff, iff_true, iff_false, and_true, true_and, and_false, false_and, reduceIte, ite_true, ite_false, eq_self] at *)) <;> omega), trivial⟩
set_option maxHeartbeats 4000000 in
theorem sp_X12_isDigit_at_F (G : kG9) {d : Nat} (hd : 1 ≤ d) (σ : St) (a0 : Int32) : Ct G M_X12_isDigit d [.int a0] σ (fun r σ' => ∃ x : Bool, r = some (.int (bI x)) ∧ σ = σ' ∧ (x = true ↔ lx_dg a0.toInt = true) ∧ True) := by
  refine wa_start (by decide) rfl (Nat.le_of_ble_eq_true rfl) (lv := [(0, .int a0)]) rfl o_X12_isDigit_0 rfl ?_
  have ua0 := Int32.toInt_lt a0
  have wa0 := Int32.le_toInt a0
  refine wa_iload_n (i := 0) rfl rfl ?_
  refine wa_i2l ?_
  refine wa_ldc2 (v := (48)) (allW_in (kT_12 _ (List.mem_of_getElem? (i := 160) rfl)) rfl) ?_
  refine wa_ldc2 (v := (57)) (allW_in (kT_12 _ (List.mem_of_getElem? (i := 161) rfl)) rfl) ?_
  refine wa_Si (d9 := d - 1) [.long _, .long _, .long _] [] (sp_X12_in G (d := d - 1) (by omega) σ _ _ _) (rfl) rfl rfl (zr (by omega)) mk_X12_in ml_12_504 (Nat.le_of_ble_eq_true rfl) (fun x2 s1 hs1 => ?_)
  obtain ⟨bx2, ex2, zs1, cx2_1, -⟩ := pB hs1
  subst ex2
  subst zs1
  refine wa_zreturn bx2 (rfl) rfl rfl ?_
  exact ⟨_, rfl, rfl, (by rw [lx_dg_iff]; refine Iff.trans (by assumption) ⟨fun h => ?_, fun h => ?_⟩ <;> (((try simp only [vp_in_iff, Int32.lt_iff_toInt_lt, Int32.le_iff_toInt_le, ← Int32.toInt_inj, Int32.reduceToInt, n_1, n_2, n_8, Int32.toNatClampNeg, Int64.lt_iff_toInt_lt, Int64.le_iff_toInt_le, ← Int64.toInt_inj, Int64.reduceToInt, Int32.toInt_toInt64, lg_cmp_ge, lg_cmp_le, lg_cmp_gt, lg_cmp_lt, lg_cmp_eq, Bool.false_eq_true, Bool.true_eq_false, reduceCtorEq, false_iff, true_iff, iff_true, iff_false, and_true, true_and, and_false, false_and, reduceIte, ite_true, ite_false, eq_self] at *)) <;> omega)), trivial⟩
set_option maxHeartbeats 4000000 in
theorem sp_X12_char1_at_F (G : kG9) {d : Nat} (hd : 0 ≤ d) (σ : St) (b : Nat → Int) (n : Nat) (a0 : Int32) (p1 : 0 ≤ a0.toInt) (r1 : 0 ≤ (gi σ 84 12).toInt ∧ (gi σ 84 12).toInt ≤ 2000) (P_DOC : DOC9 b n σ) : Ct G M_X12_char1 d [.ref 84, .int a0] σ (fun r σ' => ∃ x : Int32, r = some (.int x) ∧ σ = σ' ∧ (x.toInt = b (a0).toNatClampNeg) ∧ True) := by
  refine wa_start (by decide) rfl (Nat.le_of_ble_eq_true rfl) (lv := [(0, .ref 84), (1, .int a0)]) rfl o_X12_char1_0 rfl ?_
  have ua0 := Int32.toInt_lt a0
  have wa0 := Int32.le_toInt a0
  have qd := P_DOC.1
  have qn := P_DOC.2.1
  refine wa_iload_n (i := 1) rfl rfl ?_
  refine wa_aload_n (i := 0) rfl rfl ?_
  refine wa_geti ck_12 fl_12_469 ly_84 ?_
  refine wa_icmp_ge o_X12_char1_21 (by decide) (fun h1 => ?_) (fun h1 => ?_)
  · refine wa_iconst (v := 0) (by decide) ?_
    refine wa_ireturn rfl rfl ?_
    exact ⟨_, rfl, rfl, (by first | exact doc_in2 (by assumption) P_DOC (by ((try simp only [vp_in_iff, Int32.lt_iff_toInt_lt, Int32.le_iff_toInt_le, ← Int32.toInt_inj, Int32.reduceToInt, n_1, n_2, n_8, Int32.toNatClampNeg, Int64.lt_iff_toInt_lt, Int64.le_iff_toInt_le, ← Int64.toInt_inj, Int64.reduceToInt, Int32.toInt_toInt64, lg_cmp_ge, lg_cmp_le, lg_cmp_gt, lg_cmp_lt, lg_cmp_eq, Bool.false_eq_true, Bool.true_eq_false, reduceCtorEq, false_iff, true_iff, iff_true, iff_false, and_true, true_and, and_false, false_and, reduceIte, ite_true, ite_false, eq_self] at *)) <;> omega) (by ((try simp only [vp_in_iff, Int32.lt_iff_toInt_lt, Int32.le_iff_toInt_le, ← Int32.toInt_inj, Int32.reduceToInt, n_1, n_2, n_8, Int32.toNatClampNeg, Int64.lt_iff_toInt_lt, Int64.le_iff_toInt_le, ← Int64.toInt_inj, Int64.reduceToInt, Int32.toInt_toInt64, lg_cmp_ge, lg_cmp_le, lg_cmp_gt, lg_cmp_lt, lg_cmp_eq, Bool.false_eq_true, Bool.true_eq_false, reduceCtorEq, false_iff, true_iff, iff_true, iff_false, and_true, true_and, and_false, false_and, reduceIte, ite_true, ite_false, eq_self] at *)) <;> omega) | exact doc_out P_DOC (by ((try simp only [vp_in_iff, Int32.lt_iff_toInt_lt, Int32.le_iff_toInt_le, ← Int32.toInt_inj, Int32.reduceToInt, n_1, n_2, n_8, Int32.toNatClampNeg, Int64.lt_iff_toInt_lt, Int64.le_iff_toInt_le, ← Int64.toInt_inj, Int64.reduceToInt, Int32.toInt_toInt64, lg_cmp_ge, lg_cmp_le, lg_cmp_gt, lg_cmp_lt, lg_cmp_eq, Bool.false_eq_true, Bool.true_eq_false, reduceCtorEq, false_iff, true_iff, iff_true, iff_false, and_true, true_and, and_false, false_and, reduceIte, ite_true, ite_false, eq_self] at *)) <;> omega) (by ((try simp only [vp_in_iff, Int32.lt_iff_toInt_lt, Int32.le_iff_toInt_le, ← Int32.toInt_inj, Int32.reduceToInt, n_1, n_2, n_8, Int32.toNatClampNeg, Int64.lt_iff_toInt_lt, Int64.le_iff_toInt_le, ← Int64.toInt_inj, Int64.reduceToInt, Int32.toInt_toInt64, lg_cmp_ge, lg_cmp_le, lg_cmp_gt, lg_cmp_lt, lg_cmp_eq, Bool.false_eq_true, Bool.true_eq_false, reduceCtorEq, false_iff, true_iff, iff_true, iff_false, and_true, true_and, and_false, false_and, reduceIte, ite_true, ite_false, eq_self] at *)) <;> omega)), trivial⟩
  · have mh1 := nle_mx h1
    refine wa_aload_n (i := 0) rfl rfl ?_
    refine wa_getr ck_12 fl_12_32 ly_84 rf_84_11 ?_
    refine wa_iload_n (i := 1) rfl rfl ?_
    refine wa_bald ly_212 (by ((try simp only [vp_in_iff, Int32.lt_iff_toInt_lt, Int32.le_iff_toInt_le, ← Int32.toInt_inj, Int32.reduceToInt, n_1, n_2, n_8, Int32.toNatClampNeg, Int64.lt_iff_toInt_lt, Int64.le_iff_toInt_le, ← Int64.toInt_inj, Int64.reduceToInt, Int32.toInt_toInt64, lg_cmp_ge, lg_cmp_le, lg_cmp_gt, lg_cmp_lt, lg_cmp_eq, Bool.false_eq_true, Bool.true_eq_false, reduceCtorEq, false_iff, true_iff, iff_true, iff_false, and_true, true_and, and_false, false_and, reduceIte, ite_true, ite_false, eq_self] at *)) <;> omega) ?_
    refine wa_sipush (v := 255) (by decide) ?_
    refine wa_iand ?_
    refine wa_top (fun v2 hv2 => ?_)
    have tv2 := i_andT hv2
    refine wa_goto o_X12_char1_22 (by decide) ?_
    refine wa_ireturn rfl rfl ?_
    exact ⟨_, rfl, rfl, (by first | exact doc_in2 (by assumption) P_DOC (by ((try simp only [vp_in_iff, Int32.lt_iff_toInt_lt, Int32.le_iff_toInt_le, ← Int32.toInt_inj, Int32.reduceToInt, n_1, n_2, n_8, Int32.toNatClampNeg, Int64.lt_iff_toInt_lt, Int64.le_iff_toInt_le, ← Int64.toInt_inj, Int64.reduceToInt, Int32.toInt_toInt64, lg_cmp_ge, lg_cmp_le, lg_cmp_gt, lg_cmp_lt, lg_cmp_eq, Bool.false_eq_true, Bool.true_eq_false, reduceCtorEq, false_iff, true_iff, iff_true, iff_false, and_true, true_and, and_false, false_and, reduceIte, ite_true, ite_false, eq_self] at *)) <;> omega) (by ((try simp only [vp_in_iff, Int32.lt_iff_toInt_lt, Int32.le_iff_toInt_le, ← Int32.toInt_inj, Int32.reduceToInt, n_1, n_2, n_8, Int32.toNatClampNeg, Int64.lt_iff_toInt_lt, Int64.le_iff_toInt_le, ← Int64.toInt_inj, Int64.reduceToInt, Int32.toInt_toInt64, lg_cmp_ge, lg_cmp_le, lg_cmp_gt, lg_cmp_lt, lg_cmp_eq, Bool.false_eq_true, Bool.true_eq_false, reduceCtorEq, false_iff, true_iff, iff_true, iff_false, and_true, true_and, and_false, false_and, reduceIte, ite_true, ite_false, eq_self] at *)) <;> omega) | exact doc_out P_DOC (by ((try simp only [vp_in_iff, Int32.lt_iff_toInt_lt, Int32.le_iff_toInt_le, ← Int32.toInt_inj, Int32.reduceToInt, n_1, n_2, n_8, Int32.toNatClampNeg, Int64.lt_iff_toInt_lt, Int64.le_iff_toInt_le, ← Int64.toInt_inj, Int64.reduceToInt, Int32.toInt_toInt64, lg_cmp_ge, lg_cmp_le, lg_cmp_gt, lg_cmp_lt, lg_cmp_eq, Bool.false_eq_true, Bool.true_eq_false, reduceCtorEq, false_iff, true_iff, iff_true, iff_false, and_true, true_and, and_false, false_and, reduceIte, ite_true, ite_false, eq_self] at *)) <;> omega) (by ((try simp only [vp_in_iff, Int32.lt_iff_toInt_lt, Int32.le_iff_toInt_le, ← Int32.toInt_inj, Int32.reduceToInt, n_1, n_2, n_8, Int32.toNatClampNeg, Int64.lt_iff_toInt_lt, Int64.le_iff_toInt_le, ← Int64.toInt_inj, Int64.reduceToInt, Int32.toInt_toInt64, lg_cmp_ge, lg_cmp_le, lg_cmp_gt, lg_cmp_lt, lg_cmp_eq, Bool.false_eq_true, Bool.true_eq_false, reduceCtorEq, false_iff, true_iff, iff_true, iff_false, and_true, true_and, and_false, false_and, reduceIte, ite_true, ite_false, eq_self] at *)) <;> omega)), trivial⟩
set_option maxHeartbeats 4000000 in
theorem sp_X12_longSign_at_F (G : kG9) {d : Nat} (hd : 0 ≤ d) (σ : St) (a0 : Int32) (a1 : Int32) : Ct G M_X12_longSign d [.int a0, .int a1] σ (fun r σ' => ∃ x : Int32, r = some (.int x) ∧ σ = σ' ∧ (x.toInt = lx_two a0.toInt a1.toInt) ∧ True) := by
  refine wa_start (by decide) rfl (Nat.le_of_ble_eq_true rfl) (lv := [(0, .int a0), (1, .int a1)]) rfl o_X12_longSign_0 rfl ?_
  have ua0 := Int32.toInt_lt a0
  have wa0 := Int32.le_toInt a0
  have ua1 := Int32.toInt_lt a1
  have wa1 := Int32.le_toInt a1
  refine wa_iload_n (i := 0) rfl rfl ?_
  refine wa_bipush (v := 45) (by decide) ?_
  refine wa_icmp_ne o_X12_longSign_19 (by decide) (fun h1 => ?_) (fun h1 => ?_)
  · refine wa_iload_n (i := 1) rfl rfl ?_
    refine wa_bipush (v := 61) (by decide) ?_
    refine wa_icmp_eq o_X12_longSign_27 (by decide) (fun h2 => ?_) (fun h2 => ?_)
    · refine wa_iload_n (i := 0) rfl rfl ?_
      refine wa_bipush (v := 60) (by decide) ?_
      refine wa_icmp_ne o_X12_longSign_38 (by decide) (fun h3 => ?_) (fun h3 => ?_)
      · refine wa_iload_n (i := 0) rfl rfl ?_
        refine wa_bipush (v := 62) (by decide) ?_
        refine wa_icmp_ne o_X12_longSign_49 (by decide) (fun h4 => ?_) (fun h4 => ?_)
        · refine wa_iload_n (i := 0) rfl rfl ?_
          refine wa_bipush (v := 33) (by decide) ?_
          refine wa_icmp_ne o_X12_longSign_60 (by decide) (fun h5 => ?_) (fun h5 => ?_)
          · refine wa_iload_n (i := 0) rfl rfl ?_
            refine wa_bipush (v := 61) (by decide) ?_
            refine wa_icmp_ne o_X12_longSign_71 (by decide) (fun h6 => ?_) (fun h6 => ?_)
            · refine wa_iconst (v := 0) (by decide) ?_
              refine wa_ireturn rfl rfl ?_
              exact ⟨_, rfl, rfl, (by simp only [lx_two]; (try simp only [vp_in_iff, Int32.lt_iff_toInt_lt, Int32.le_iff_toInt_le, ← Int32.toInt_inj, Int32.reduceToInt, n_1, n_2, n_8, Int32.toNatClampNeg, Int64.lt_iff_toInt_lt, Int64.le_iff_toInt_le, ← Int64.toInt_inj, Int64.reduceToInt, Int32.toInt_toInt64, lg_cmp_ge, lg_cmp_le, lg_cmp_gt, lg_cmp_lt, lg_cmp_eq, Bool.false_eq_true, Bool.true_eq_false, reduceCtorEq, false_iff, true_iff, iff_true, iff_false, and_true, true_and, and_false, false_and, reduceIte, ite_true, ite_false, eq_self] at *); (repeat' split) <;> omega), trivial⟩
            · refine wa_bipush (v := 17) (by decide) ?_
              refine wa_goto o_X12_longSign_72 (by decide) ?_
              refine wa_ireturn rfl rfl ?_
              exact ⟨_, rfl, rfl, (by simp only [lx_two]; (try simp only [vp_in_iff, Int32.lt_iff_toInt_lt, Int32.le_iff_toInt_le, ← Int32.toInt_inj, Int32.reduceToInt, n_1, n_2, n_8, Int32.toNatClampNeg, Int64.lt_iff_toInt_lt, Int64.le_iff_toInt_le, ← Int64.toInt_inj, Int64.reduceToInt, Int32.toInt_toInt64, lg_cmp_ge, lg_cmp_le, lg_cmp_gt, lg_cmp_lt, lg_cmp_eq, Bool.false_eq_true, Bool.true_eq_false, reduceCtorEq, false_iff, true_iff, iff_true, iff_false, and_true, true_and, and_false, false_and, reduceIte, ite_true, ite_false, eq_self] at *); (repeat' split) <;> omega), trivial⟩
          · refine wa_bipush (v := 15) (by decide) ?_
            refine wa_goto o_X12_longSign_72 (by decide) ?_
            refine wa_ireturn rfl rfl ?_
            exact ⟨_, rfl, rfl, (by simp only [lx_two]; (try simp only [vp_in_iff, Int32.lt_iff_toInt_lt, Int32.le_iff_toInt_le, ← Int32.toInt_inj, Int32.reduceToInt, n_1, n_2, n_8, Int32.toNatClampNeg, Int64.lt_iff_toInt_lt, Int64.le_iff_toInt_le, ← Int64.toInt_inj, Int64.reduceToInt, Int32.toInt_toInt64, lg_cmp_ge, lg_cmp_le, lg_cmp_gt, lg_cmp_lt, lg_cmp_eq, Bool.false_eq_true, Bool.true_eq_false, reduceCtorEq, false_iff, true_iff, iff_true, iff_false, and_true, true_and, and_false, false_and, reduceIte, ite_true, ite_false, eq_self] at *); (repeat' split) <;> omega), trivial⟩
        · refine wa_bipush (v := 14) (by decide) ?_
          refine wa_goto o_X12_longSign_72 (by decide) ?_
          refine wa_ireturn rfl rfl ?_
          exact ⟨_, rfl, rfl, (by simp only [lx_two]; (try simp only [vp_in_iff, Int32.lt_iff_toInt_lt, Int32.le_iff_toInt_le, ← Int32.toInt_inj, Int32.reduceToInt, n_1, n_2, n_8, Int32.toNatClampNeg, Int64.lt_iff_toInt_lt, Int64.le_iff_toInt_le, ← Int64.toInt_inj, Int64.reduceToInt, Int32.toInt_toInt64, lg_cmp_ge, lg_cmp_le, lg_cmp_gt, lg_cmp_lt, lg_cmp_eq, Bool.false_eq_true, Bool.true_eq_false, reduceCtorEq, false_iff, true_iff, iff_true, iff_false, and_true, true_and, and_false, false_and, reduceIte, ite_true, ite_false, eq_self] at *); (repeat' split) <;> omega), trivial⟩
      · refine wa_bipush (v := 13) (by decide) ?_
        refine wa_goto o_X12_longSign_72 (by decide) ?_
        refine wa_ireturn rfl rfl ?_
        exact ⟨_, rfl, rfl, (by simp only [lx_two]; (try simp only [vp_in_iff, Int32.lt_iff_toInt_lt, Int32.le_iff_toInt_le, ← Int32.toInt_inj, Int32.reduceToInt, n_1, n_2, n_8, Int32.toNatClampNeg, Int64.lt_iff_toInt_lt, Int64.le_iff_toInt_le, ← Int64.toInt_inj, Int64.reduceToInt, Int32.toInt_toInt64, lg_cmp_ge, lg_cmp_le, lg_cmp_gt, lg_cmp_lt, lg_cmp_eq, Bool.false_eq_true, Bool.true_eq_false, reduceCtorEq, false_iff, true_iff, iff_true, iff_false, and_true, true_and, and_false, false_and, reduceIte, ite_true, ite_false, eq_self] at *); (repeat' split) <;> omega), trivial⟩
    · refine wa_iconst (v := 0) (by decide) ?_
      refine wa_ireturn rfl rfl ?_
      exact ⟨_, rfl, rfl, (by simp only [lx_two]; (try simp only [vp_in_iff, Int32.lt_iff_toInt_lt, Int32.le_iff_toInt_le, ← Int32.toInt_inj, Int32.reduceToInt, n_1, n_2, n_8, Int32.toNatClampNeg, Int64.lt_iff_toInt_lt, Int64.le_iff_toInt_le, ← Int64.toInt_inj, Int64.reduceToInt, Int32.toInt_toInt64, lg_cmp_ge, lg_cmp_le, lg_cmp_gt, lg_cmp_lt, lg_cmp_eq, Bool.false_eq_true, Bool.true_eq_false, reduceCtorEq, false_iff, true_iff, iff_true, iff_false, and_true, true_and, and_false, false_and, reduceIte, ite_true, ite_false, eq_self] at *); (repeat' split) <;> omega), trivial⟩
  · refine wa_iload_n (i := 1) rfl rfl ?_
    refine wa_bipush (v := 62) (by decide) ?_
    refine wa_icmp_ne o_X12_longSign_17 (by decide) (fun h7 => ?_) (fun h7 => ?_)
    · refine wa_iconst (v := 0) (by decide) ?_
      refine wa_ireturn rfl rfl ?_
      exact ⟨_, rfl, rfl, (by simp only [lx_two]; (try simp only [vp_in_iff, Int32.lt_iff_toInt_lt, Int32.le_iff_toInt_le, ← Int32.toInt_inj, Int32.reduceToInt, n_1, n_2, n_8, Int32.toNatClampNeg, Int64.lt_iff_toInt_lt, Int64.le_iff_toInt_le, ← Int64.toInt_inj, Int64.reduceToInt, Int32.toInt_toInt64, lg_cmp_ge, lg_cmp_le, lg_cmp_gt, lg_cmp_lt, lg_cmp_eq, Bool.false_eq_true, Bool.true_eq_false, reduceCtorEq, false_iff, true_iff, iff_true, iff_false, and_true, true_and, and_false, false_and, reduceIte, ite_true, ite_false, eq_self] at *); (repeat' split) <;> omega), trivial⟩
    · refine wa_bipush (v := 16) (by decide) ?_
      refine wa_goto o_X12_longSign_18 (by decide) ?_
      refine wa_ireturn rfl rfl ?_
      exact ⟨_, rfl, rfl, (by simp only [lx_two]; (try simp only [vp_in_iff, Int32.lt_iff_toInt_lt, Int32.le_iff_toInt_le, ← Int32.toInt_inj, Int32.reduceToInt, n_1, n_2, n_8, Int32.toNatClampNeg, Int64.lt_iff_toInt_lt, Int64.le_iff_toInt_le, ← Int64.toInt_inj, Int64.reduceToInt, Int32.toInt_toInt64, lg_cmp_ge, lg_cmp_le, lg_cmp_gt, lg_cmp_lt, lg_cmp_eq, Bool.false_eq_true, Bool.true_eq_false, reduceCtorEq, false_iff, true_iff, iff_true, iff_false, and_true, true_and, and_false, false_and, reduceIte, ite_true, ite_false, eq_self] at *); (repeat' split) <;> omega), trivial⟩
set_option maxHeartbeats 4000000 in
theorem sp_X12_signOf_at_F (G : kG9) {d : Nat} (hd : 0 ≤ d) (σ : St) (a0 : Int32) : Ct G M_X12_signOf d [.int a0] σ (fun r σ' => ∃ x : Int32, r = some (.int x) ∧ σ = σ' ∧ (x.toInt = lx_one a0.toInt) ∧ True) := by
  refine wa_start (by decide) rfl (Nat.le_of_ble_eq_true rfl) (lv := [(0, .int a0)]) rfl o_X12_signOf_0 rfl ?_
  have ua0 := Int32.toInt_lt a0
  have wa0 := Int32.le_toInt a0
  refine wa_iload_n (i := 0) rfl rfl ?_
  refine wa_top (fun q1 hq1 => ?_)
  by_cases h2 : q1 = 40
  · refine wa_lsw (by decide) (by rw [h2] <;> rfl) o_X12_signOf_108 (by decide) ?_
    refine wa_iconst (v := 1) (by decide) ?_
    refine wa_ireturn rfl rfl ?_
    exact ⟨_, rfl, rfl, (by first | (subst_vars; decide) | ((try simp only [vp_in_iff, Int32.lt_iff_toInt_lt, Int32.le_iff_toInt_le, ← Int32.toInt_inj, Int32.reduceToInt, n_1, n_2, n_8, Int32.toNatClampNeg, Int64.lt_iff_toInt_lt, Int64.le_iff_toInt_le, ← Int64.toInt_inj, Int64.reduceToInt, Int32.toInt_toInt64, lg_cmp_ge, lg_cmp_le, lg_cmp_gt, lg_cmp_lt, lg_cmp_eq, Bool.false_eq_true, Bool.true_eq_false, reduceCtorEq, false_iff, true_iff, iff_true, iff_false, and_true, true_and, and_false, false_and, reduceIte, ite_true, ite_false, eq_self] at *); simp [lx_one, *])), trivial⟩
  ·
    by_cases h3 : q1 = 41
    · refine wa_lsw (by decide) (by rw [h3] <;> rfl) o_X12_signOf_110 (by decide) ?_
      refine wa_iconst (v := 2) (by decide) ?_
      refine wa_ireturn rfl rfl ?_
      exact ⟨_, rfl, rfl, (by first | (subst_vars; decide) | ((try simp only [vp_in_iff, Int32.lt_iff_toInt_lt, Int32.le_iff_toInt_le, ← Int32.toInt_inj, Int32.reduceToInt, n_1, n_2, n_8, Int32.toNatClampNeg, Int64.lt_iff_toInt_lt, Int64.le_iff_toInt_le, ← Int64.toInt_inj, Int64.reduceToInt, Int32.toInt_toInt64, lg_cmp_ge, lg_cmp_le, lg_cmp_gt, lg_cmp_lt, lg_cmp_eq, Bool.false_eq_true, Bool.true_eq_false, reduceCtorEq, false_iff, true_iff, iff_true, iff_false, and_true, true_and, and_false, false_and, reduceIte, ite_true, ite_false, eq_self] at *); simp [lx_one, *])), trivial⟩
    ·
      by_cases h4 : q1 = 42
      · refine wa_lsw (by decide) (by rw [h4] <;> rfl) o_X12_signOf_130 (by decide) ?_
        refine wa_bipush (v := 10) (by decide) ?_
        refine wa_ireturn rfl rfl ?_
        exact ⟨_, rfl, rfl, (by first | (subst_vars; decide) | ((try simp only [vp_in_iff, Int32.lt_iff_toInt_lt, Int32.le_iff_toInt_le, ← Int32.toInt_inj, Int32.reduceToInt, n_1, n_2, n_8, Int32.toNatClampNeg, Int64.lt_iff_toInt_lt, Int64.le_iff_toInt_le, ← Int64.toInt_inj, Int64.reduceToInt, Int32.toInt_toInt64, lg_cmp_ge, lg_cmp_le, lg_cmp_gt, lg_cmp_lt, lg_cmp_eq, Bool.false_eq_true, Bool.true_eq_false, reduceCtorEq, false_iff, true_iff, iff_true, iff_false, and_true, true_and, and_false, false_and, reduceIte, ite_true, ite_false, eq_self] at *); simp [lx_one, *])), trivial⟩
      ·
        by_cases h5 : q1 = 43
        · refine wa_lsw (by decide) (by rw [h5] <;> rfl) o_X12_signOf_124 (by decide) ?_
          refine wa_bipush (v := 8) (by decide) ?_
          refine wa_ireturn rfl rfl ?_
          exact ⟨_, rfl, rfl, (by first | (subst_vars; decide) | ((try simp only [vp_in_iff, Int32.lt_iff_toInt_lt, Int32.le_iff_toInt_le, ← Int32.toInt_inj, Int32.reduceToInt, n_1, n_2, n_8, Int32.toNatClampNeg, Int64.lt_iff_toInt_lt, Int64.le_iff_toInt_le, ← Int64.toInt_inj, Int64.reduceToInt, Int32.toInt_toInt64, lg_cmp_ge, lg_cmp_le, lg_cmp_gt, lg_cmp_lt, lg_cmp_eq, Bool.false_eq_true, Bool.true_eq_false, reduceCtorEq, false_iff, true_iff, iff_true, iff_false, and_true, true_and, and_false, false_and, reduceIte, ite_true, ite_false, eq_self] at *); simp [lx_one, *])), trivial⟩
        ·
          by_cases h6 : q1 = 44
          · refine wa_lsw (by decide) (by rw [h6] <;> rfl) o_X12_signOf_116 (by decide) ?_
            refine wa_iconst (v := 5) (by decide) ?_
            refine wa_ireturn rfl rfl ?_
            exact ⟨_, rfl, rfl, (by first | (subst_vars; decide) | ((try simp only [vp_in_iff, Int32.lt_iff_toInt_lt, Int32.le_iff_toInt_le, ← Int32.toInt_inj, Int32.reduceToInt, n_1, n_2, n_8, Int32.toNatClampNeg, Int64.lt_iff_toInt_lt, Int64.le_iff_toInt_le, ← Int64.toInt_inj, Int64.reduceToInt, Int32.toInt_toInt64, lg_cmp_ge, lg_cmp_le, lg_cmp_gt, lg_cmp_lt, lg_cmp_eq, Bool.false_eq_true, Bool.true_eq_false, reduceCtorEq, false_iff, true_iff, iff_true, iff_false, and_true, true_and, and_false, false_and, reduceIte, ite_true, ite_false, eq_self] at *); simp [lx_one, *])), trivial⟩
          ·
            by_cases h7 : q1 = 45
            · refine wa_lsw (by decide) (by rw [h7] <;> rfl) o_X12_signOf_127 (by decide) ?_
              refine wa_bipush (v := 9) (by decide) ?_
              refine wa_ireturn rfl rfl ?_
              exact ⟨_, rfl, rfl, (by first | (subst_vars; decide) | ((try simp only [vp_in_iff, Int32.lt_iff_toInt_lt, Int32.le_iff_toInt_le, ← Int32.toInt_inj, Int32.reduceToInt, n_1, n_2, n_8, Int32.toNatClampNeg, Int64.lt_iff_toInt_lt, Int64.le_iff_toInt_le, ← Int64.toInt_inj, Int64.reduceToInt, Int32.toInt_toInt64, lg_cmp_ge, lg_cmp_le, lg_cmp_gt, lg_cmp_lt, lg_cmp_eq, Bool.false_eq_true, Bool.true_eq_false, reduceCtorEq, false_iff, true_iff, iff_true, iff_false, and_true, true_and, and_false, false_and, reduceIte, ite_true, ite_false, eq_self] at *); simp [lx_one, *])), trivial⟩
            ·
              by_cases h8 : q1 = 59
              · refine wa_lsw (by decide) (by rw [h8] <;> rfl) o_X12_signOf_118 (by decide) ?_
                refine wa_bipush (v := 6) (by decide) ?_
                refine wa_ireturn rfl rfl ?_
                exact ⟨_, rfl, rfl, (by first | (subst_vars; decide) | ((try simp only [vp_in_iff, Int32.lt_iff_toInt_lt, Int32.le_iff_toInt_le, ← Int32.toInt_inj, Int32.reduceToInt, n_1, n_2, n_8, Int32.toNatClampNeg, Int64.lt_iff_toInt_lt, Int64.le_iff_toInt_le, ← Int64.toInt_inj, Int64.reduceToInt, Int32.toInt_toInt64, lg_cmp_ge, lg_cmp_le, lg_cmp_gt, lg_cmp_lt, lg_cmp_eq, Bool.false_eq_true, Bool.true_eq_false, reduceCtorEq, false_iff, true_iff, iff_true, iff_false, and_true, true_and, and_false, false_and, reduceIte, ite_true, ite_false, eq_self] at *); simp [lx_one, *])), trivial⟩
              ·
                by_cases h9 : q1 = 60
                · refine wa_lsw (by decide) (by rw [h9] <;> rfl) o_X12_signOf_133 (by decide) ?_
                  refine wa_bipush (v := 11) (by decide) ?_
                  refine wa_ireturn rfl rfl ?_
                  exact ⟨_, rfl, rfl, (by first | (subst_vars; decide) | ((try simp only [vp_in_iff, Int32.lt_iff_toInt_lt, Int32.le_iff_toInt_le, ← Int32.toInt_inj, Int32.reduceToInt, n_1, n_2, n_8, Int32.toNatClampNeg, Int64.lt_iff_toInt_lt, Int64.le_iff_toInt_le, ← Int64.toInt_inj, Int64.reduceToInt, Int32.toInt_toInt64, lg_cmp_ge, lg_cmp_le, lg_cmp_gt, lg_cmp_lt, lg_cmp_eq, Bool.false_eq_true, Bool.true_eq_false, reduceCtorEq, false_iff, true_iff, iff_true, iff_false, and_true, true_and, and_false, false_and, reduceIte, ite_true, ite_false, eq_self] at *); simp [lx_one, *])), trivial⟩
                ·
                  by_cases h10 : q1 = 61
                  · refine wa_lsw (by decide) (by rw [h10] <;> rfl) o_X12_signOf_121 (by decide) ?_
                    refine wa_bipush (v := 7) (by decide) ?_
                    refine wa_ireturn rfl rfl ?_
                    exact ⟨_, rfl, rfl, (by first | (subst_vars; decide) | ((try simp only [vp_in_iff, Int32.lt_iff_toInt_lt, Int32.le_iff_toInt_le, ← Int32.toInt_inj, Int32.reduceToInt, n_1, n_2, n_8, Int32.toNatClampNeg, Int64.lt_iff_toInt_lt, Int64.le_iff_toInt_le, ← Int64.toInt_inj, Int64.reduceToInt, Int32.toInt_toInt64, lg_cmp_ge, lg_cmp_le, lg_cmp_gt, lg_cmp_lt, lg_cmp_eq, Bool.false_eq_true, Bool.true_eq_false, reduceCtorEq, false_iff, true_iff, iff_true, iff_false, and_true, true_and, and_false, false_and, reduceIte, ite_true, ite_false, eq_self] at *); simp [lx_one, *])), trivial⟩
                  ·
                    by_cases h11 : q1 = 62
                    · refine wa_lsw (by decide) (by rw [h11] <;> rfl) o_X12_signOf_136 (by decide) ?_
                      refine wa_bipush (v := 12) (by decide) ?_
                      refine wa_ireturn rfl rfl ?_
                      exact ⟨_, rfl, rfl, (by first | (subst_vars; decide) | ((try simp only [vp_in_iff, Int32.lt_iff_toInt_lt, Int32.le_iff_toInt_le, ← Int32.toInt_inj, Int32.reduceToInt, n_1, n_2, n_8, Int32.toNatClampNeg, Int64.lt_iff_toInt_lt, Int64.le_iff_toInt_le, ← Int64.toInt_inj, Int64.reduceToInt, Int32.toInt_toInt64, lg_cmp_ge, lg_cmp_le, lg_cmp_gt, lg_cmp_lt, lg_cmp_eq, Bool.false_eq_true, Bool.true_eq_false, reduceCtorEq, false_iff, true_iff, iff_true, iff_false, and_true, true_and, and_false, false_and, reduceIte, ite_true, ite_false, eq_self] at *); simp [lx_one, *])), trivial⟩
                    ·
                      by_cases h12 : q1 = 91
                      · refine wa_lsw (by decide) (by rw [h12] <;> rfl) o_X12_signOf_112 (by decide) ?_
                        refine wa_iconst (v := 3) (by decide) ?_
                        refine wa_ireturn rfl rfl ?_
                        exact ⟨_, rfl, rfl, (by first | (subst_vars; decide) | ((try simp only [vp_in_iff, Int32.lt_iff_toInt_lt, Int32.le_iff_toInt_le, ← Int32.toInt_inj, Int32.reduceToInt, n_1, n_2, n_8, Int32.toNatClampNeg, Int64.lt_iff_toInt_lt, Int64.le_iff_toInt_le, ← Int64.toInt_inj, Int64.reduceToInt, Int32.toInt_toInt64, lg_cmp_ge, lg_cmp_le, lg_cmp_gt, lg_cmp_lt, lg_cmp_eq, Bool.false_eq_true, Bool.true_eq_false, reduceCtorEq, false_iff, true_iff, iff_true, iff_false, and_true, true_and, and_false, false_and, reduceIte, ite_true, ite_false, eq_self] at *); simp [lx_one, *])), trivial⟩
                      ·
                        by_cases h13 : q1 = 93
                        · refine wa_lsw (by decide) (by rw [h13] <;> rfl) o_X12_signOf_114 (by decide) ?_
                          refine wa_iconst (v := 4) (by decide) ?_
                          refine wa_ireturn rfl rfl ?_
                          exact ⟨_, rfl, rfl, (by first | (subst_vars; decide) | ((try simp only [vp_in_iff, Int32.lt_iff_toInt_lt, Int32.le_iff_toInt_le, ← Int32.toInt_inj, Int32.reduceToInt, n_1, n_2, n_8, Int32.toNatClampNeg, Int64.lt_iff_toInt_lt, Int64.le_iff_toInt_le, ← Int64.toInt_inj, Int64.reduceToInt, Int32.toInt_toInt64, lg_cmp_ge, lg_cmp_le, lg_cmp_gt, lg_cmp_lt, lg_cmp_eq, Bool.false_eq_true, Bool.true_eq_false, reduceCtorEq, false_iff, true_iff, iff_true, iff_false, and_true, true_and, and_false, false_and, reduceIte, ite_true, ite_false, eq_self] at *); simp [lx_one, *])), trivial⟩
                        ·
                          refine wa_lsw (off := 138) (by decide) (by show Op.lookupswitch.offset [(40, 107), (41, 109), (42, 129), (43, 123), (44, 115), (45, 126), (59, 117), (60, 132), (61, 120), (62, 135), (91, 111), (93, 113)] 138 (q1).toInt = 138; rw [lv_osw (a := 40) h2 rfl, lv_osw (a := 41) h3 rfl, lv_osw (a := 42) h4 rfl, lv_osw (a := 43) h5 rfl, lv_osw (a := 44) h6 rfl, lv_osw (a := 45) h7 rfl, lv_osw (a := 59) h8 rfl, lv_osw (a := 60) h9 rfl, lv_osw (a := 61) h10 rfl, lv_osw (a := 62) h11 rfl, lv_osw (a := 91) h12 rfl, lv_osw (a := 93) h13 rfl] <;> rfl) o_X12_signOf_139 (by decide) ?_
                          refine wa_iconst (v := 0) (by decide) ?_
                          refine wa_ireturn rfl rfl ?_
                          exact ⟨_, rfl, rfl, (by first | (subst_vars; decide) | ((try simp only [vp_in_iff, Int32.lt_iff_toInt_lt, Int32.le_iff_toInt_le, ← Int32.toInt_inj, Int32.reduceToInt, n_1, n_2, n_8, Int32.toNatClampNeg, Int64.lt_iff_toInt_lt, Int64.le_iff_toInt_le, ← Int64.toInt_inj, Int64.reduceToInt, Int32.toInt_toInt64, lg_cmp_ge, lg_cmp_le, lg_cmp_gt, lg_cmp_lt, lg_cmp_eq, Bool.false_eq_true, Bool.true_eq_false, reduceCtorEq, false_iff, true_iff, iff_true, iff_false, and_true, true_and, and_false, false_and, reduceIte, ite_true, ite_false, eq_self] at *); simp [lx_one, *])), trivial⟩
set_option maxHeartbeats 4000000 in
theorem sp_X12_isText_at_F (G : kG9) {d : Nat} (hd : 4 ≤ d) (σ : St) (b : Nat → Int) (n : Nat) (p : Nat) (a0 : Int32) (a1 : Nat × String × Nat × String × Nat × List Int32) (ha1 : a1 ∈ kSq) (p1 : 0 ≤ a0.toInt ∧ a0.toInt ≤ 2000) (p2 : (gi σ 207 (a0).toNatClampNeg).toInt = p) (p3 : p ≤ 2000) (p4 : 0 ≤ (gi σ 206 (a0).toNatClampNeg).toInt) (r1 : 0 ≤ (gi σ 84 12).toInt ∧ (gi σ 84 12).toInt ≤ 2000) (P_DOC : DOC9 b n σ) : Ct G M_X12_isText d [.ref 84, .int a0, .ref (1000 + a1.1)] σ (fun r σ' => ∃ x : Bool, r = some (.int (bI x)) ∧ σ = σ' ∧ (x = true ↔ TXE a1 b p (gi σ 206 (a0).toNatClampNeg).toInt.toNat) ∧ True) := by
  refine wa_start (by decide) rfl (Nat.le_of_ble_eq_true rfl) (lv := [(0, .ref 84), (1, .int a0), (2, .ref (1000 + a1.1))]) rfl o_X12_isText_0 rfl ?_
  have ua0 := Int32.toInt_lt a0
  have wa0 := Int32.le_toInt a0
  refine wa_aload_n (i := 0) rfl rfl ?_
  refine wa_getr ck_12 fl_12_84 ly_84 rf_84_24 ?_
  refine wa_iload_n (i := 1) rfl rfl ?_
  refine wa_iald ly_206 (by ((try simp only [vp_in_iff, Int32.lt_iff_toInt_lt, Int32.le_iff_toInt_le, ← Int32.toInt_inj, Int32.reduceToInt, n_1, n_2, n_8, Int32.toNatClampNeg, Int64.lt_iff_toInt_lt, Int64.le_iff_toInt_le, ← Int64.toInt_inj, Int64.reduceToInt, Int32.toInt_toInt64, lg_cmp_ge, lg_cmp_le, lg_cmp_gt, lg_cmp_lt, lg_cmp_eq, Bool.false_eq_true, Bool.true_eq_false, reduceCtorEq, false_iff, true_iff, iff_true, iff_false, and_true, true_and, and_false, false_and, reduceIte, ite_true, ite_false, eq_self] at *)) <;> omega) ?_
  refine wa_aload_n (i := 2) rfl rfl ?_
  refine wa_Ti (d9 := d - 1) a1 [] [.int (gi σ 206 (a0).toNatClampNeg)] (sp_J0_length_8abf5 G (d := d - 1) (by omega) σ a1 ha1) rfl rfl rfl (zr (by omega)) mk_J0_length_8abf5 ha1 ml_12_583 (Nat.le_of_ble_eq_true rfl) (fun x1 s2 hs2 => ?_)
  obtain ⟨zs2, cx1, -⟩ := pI hs2
  subst zs2
  refine wa_icmp_eq o_X12_isText_15 (by decide) (fun h3 => ?_) (fun h3 => ?_)
  · refine wa_iconst (v := 0) (by decide) ?_
    refine wa_istore_nD (lv' := [(3, .int 0), (0, .ref 84), (1, .int a0), (2, .ref (1000 + a1.1))]) (i := 3) rfl (by decide) rfl ?_
    refine wa_pick [1, 2, 3, 0] rfl ?_
    have hi5 : ∀ (n9_17 : Nat) (l3 : Int32), ((0 ≤ l3.toInt ∧ l3.toInt ≤ 160) ∧ (∀ j : Nat, (j : Int) < (l3 : Int32).toInt → b (p + j) = (a1.2.2.2.2.2.getD j 0).toInt) ∧ (True)) → (200 - l3.toInt).toNat = n9_17 → WA G M_X12_isText (ZM G M_X12_isText d (fun r σ' => ∃ x : Bool, r = some (.int (bI x)) ∧ σ = σ' ∧ (x = true ↔ TXE a1 b p (gi σ 206 (a0).toNatClampNeg).toInt.toNat) ∧ True)) B_X12_isText_17 [(0, .ref 84), (1, .int a0), (2, .ref (1000 + a1.1)), (3, .int l3)] [] σ := by
      intro n9_17
      induction n9_17 using Nat.strongRecOn with
      | _ n9_17 ih4 =>
        intro l3  i9 m9_17
        obtain ⟨jhi5_0, jhi5_1, -⟩ := i9
        have ul3 := Int32.toInt_lt l3
        have wl3 := Int32.le_toInt l3
        refine wa_iload_n (i := 3) rfl rfl ?_
        refine wa_aload_n (i := 2) rfl rfl ?_
        refine wa_Ti (d9 := d - 1) a1 [] [.int l3] (sp_J0_length_8abf5 G (d := d - 1) (by omega) σ a1 ha1) rfl rfl rfl (zr (by omega)) mk_J0_length_8abf5 ha1 ml_12_583 (Nat.le_of_ble_eq_true rfl) (fun x6 s7 hs7 => ?_)
        obtain ⟨zs7, cx6, -⟩ := pI hs7
        subst zs7
        refine wa_icmp_ge o_X12_isText_53 (by decide) (fun h8 => ?_) (fun h8 => ?_)
        · have m3 := True.intro
          refine wa_iconst (v := 1) (by decide) ?_
          refine wa_zreturn true (rfl) rfl rfl ?_
          exact ⟨_, rfl, rfl, (by first | (have z9 := m1; exact txe_no1 (by assumption) (by assumption) (by ((try simp only [vp_in_iff, Int32.lt_iff_toInt_lt, Int32.le_iff_toInt_le, ← Int32.toInt_inj, Int32.reduceToInt, n_1, n_2, n_8, Int32.toNatClampNeg, Int64.lt_iff_toInt_lt, Int64.le_iff_toInt_le, ← Int64.toInt_inj, Int64.reduceToInt, Int32.toInt_toInt64, lg_cmp_ge, lg_cmp_le, lg_cmp_gt, lg_cmp_lt, lg_cmp_eq, Bool.false_eq_true, Bool.true_eq_false, reduceCtorEq, false_iff, true_iff, iff_true, iff_false, and_true, true_and, and_false, false_and, reduceIte, ite_true, ite_false, eq_self] at *)) <;> omega)) | (have z9 := m2; exact txe_no2 (by assumption) (by assumption) (by assumption) (by ((try simp only [vp_in_iff, Int32.lt_iff_toInt_lt, Int32.le_iff_toInt_le, ← Int32.toInt_inj, Int32.reduceToInt, n_1, n_2, n_8, Int32.toNatClampNeg, Int64.lt_iff_toInt_lt, Int64.le_iff_toInt_le, ← Int64.toInt_inj, Int64.reduceToInt, Int32.toInt_toInt64, lg_cmp_ge, lg_cmp_le, lg_cmp_gt, lg_cmp_lt, lg_cmp_eq, Bool.false_eq_true, Bool.true_eq_false, reduceCtorEq, false_iff, true_iff, iff_true, iff_false, and_true, true_and, and_false, false_and, reduceIte, ite_true, ite_false, eq_self] at *)) <;> omega) (by ((try simp only [vp_in_iff, Int32.lt_iff_toInt_lt, Int32.le_iff_toInt_le, ← Int32.toInt_inj, Int32.reduceToInt, n_1, n_2, n_8, Int32.toNatClampNeg, Int64.lt_iff_toInt_lt, Int64.le_iff_toInt_le, ← Int64.toInt_inj, Int64.reduceToInt, Int32.toInt_toInt64, lg_cmp_ge, lg_cmp_le, lg_cmp_gt, lg_cmp_lt, lg_cmp_eq, Bool.false_eq_true, Bool.true_eq_false, reduceCtorEq, false_iff, true_iff, iff_true, iff_false, and_true, true_and, and_false, false_and, reduceIte, ite_true, ite_false, eq_self] at *)) <;> omega)) | (have z9 := m3; exact txe_yes (by ((try simp only [vp_in_iff, Int32.lt_iff_toInt_lt, Int32.le_iff_toInt_le, ← Int32.toInt_inj, Int32.reduceToInt, n_1, n_2, n_8, Int32.toNatClampNeg, Int64.lt_iff_toInt_lt, Int64.le_iff_toInt_le, ← Int64.toInt_inj, Int64.reduceToInt, Int32.toInt_toInt64, lg_cmp_ge, lg_cmp_le, lg_cmp_gt, lg_cmp_lt, lg_cmp_eq, Bool.false_eq_true, Bool.true_eq_false, reduceCtorEq, false_iff, true_iff, iff_true, iff_false, and_true, true_and, and_false, false_and, reduceIte, ite_true, ite_false, eq_self] at *)) <;> omega) (by assumption) (by ((try simp only [vp_in_iff, Int32.lt_iff_toInt_lt, Int32.le_iff_toInt_le, ← Int32.toInt_inj, Int32.reduceToInt, n_1, n_2, n_8, Int32.toNatClampNeg, Int64.lt_iff_toInt_lt, Int64.le_iff_toInt_le, ← Int64.toInt_inj, Int64.reduceToInt, Int32.toInt_toInt64, lg_cmp_ge, lg_cmp_le, lg_cmp_gt, lg_cmp_lt, lg_cmp_eq, Bool.false_eq_true, Bool.true_eq_false, reduceCtorEq, false_iff, true_iff, iff_true, iff_false, and_true, true_and, and_false, false_and, reduceIte, ite_true, ite_false, eq_self] at *)) <;> omega))), trivial⟩
        · have mh8 := nle_mx h8
          refine wa_aload_n (i := 0) rfl rfl ?_
          refine wa_aload_n (i := 0) rfl rfl ?_
          refine wa_getr ck_12 fl_12_81 ly_84 rf_84_23 ?_
          refine wa_iload_n (i := 1) rfl rfl ?_
          refine wa_iald ly_207 (by ((try simp only [vp_in_iff, Int32.lt_iff_toInt_lt, Int32.le_iff_toInt_le, ← Int32.toInt_inj, Int32.reduceToInt, n_1, n_2, n_8, Int32.toNatClampNeg, Int64.lt_iff_toInt_lt, Int64.le_iff_toInt_le, ← Int64.toInt_inj, Int64.reduceToInt, Int32.toInt_toInt64, lg_cmp_ge, lg_cmp_le, lg_cmp_gt, lg_cmp_lt, lg_cmp_eq, Bool.false_eq_true, Bool.true_eq_false, reduceCtorEq, false_iff, true_iff, iff_true, iff_false, and_true, true_and, and_false, false_and, reduceIte, ite_true, ite_false, eq_self] at *)) <;> omega) ?_
          refine wa_iload_n (i := 3) rfl rfl ?_
          refine wa_iadd ?_
          refine wa_top (fun v9 hv9 => ?_)
          first | (refine i_addK hv9 ?_ ?_ (fun tv9 => ?_); (((try simp only [vp_in_iff, Int32.lt_iff_toInt_lt, Int32.le_iff_toInt_le, ← Int32.toInt_inj, Int32.reduceToInt, n_1, n_2, n_8, Int32.toNatClampNeg, Int64.lt_iff_toInt_lt, Int64.le_iff_toInt_le, ← Int64.toInt_inj, Int64.reduceToInt, Int32.toInt_toInt64, lg_cmp_ge, lg_cmp_le, lg_cmp_gt, lg_cmp_lt, lg_cmp_eq, Bool.false_eq_true, Bool.true_eq_false, reduceCtorEq, false_iff, true_iff, iff_true, iff_false, and_true, true_and, and_false, false_and, reduceIte, ite_true, ite_false, eq_self] at *)) <;> omega); (((try simp only [vp_in_iff, Int32.lt_iff_toInt_lt, Int32.le_iff_toInt_le, ← Int32.toInt_inj, Int32.reduceToInt, n_1, n_2, n_8, Int32.toNatClampNeg, Int64.lt_iff_toInt_lt, Int64.le_iff_toInt_le, ← Int64.toInt_inj, Int64.reduceToInt, Int32.toInt_toInt64, lg_cmp_ge, lg_cmp_le, lg_cmp_gt, lg_cmp_lt, lg_cmp_eq, Bool.false_eq_true, Bool.true_eq_false, reduceCtorEq, false_iff, true_iff, iff_true, iff_false, and_true, true_and, and_false, false_and, reduceIte, ite_true, ite_false, eq_self] at *)) <;> omega)) | skip
          refine wa_Vi (d9 := d - 1) [.int _] [] (sp_X12_char1_at_F G (d := d - 1) (by omega) σ b n _ (by ((try simp only [vp_in_iff, Int32.lt_iff_toInt_lt, Int32.le_iff_toInt_le, ← Int32.toInt_inj, Int32.reduceToInt, n_1, n_2, n_8, Int32.toNatClampNeg, Int64.lt_iff_toInt_lt, Int64.le_iff_toInt_le, ← Int64.toInt_inj, Int64.reduceToInt, Int32.toInt_toInt64, lg_cmp_ge, lg_cmp_le, lg_cmp_gt, lg_cmp_lt, lg_cmp_eq, Bool.false_eq_true, Bool.true_eq_false, reduceCtorEq, false_iff, true_iff, iff_true, iff_false, and_true, true_and, and_false, false_and, reduceIte, ite_true, ite_false, eq_self] at *)) <;> omega) (by first | assumption | exact Or.inl rfl | exact Or.inr rfl | (((try simp only [vp_in_iff, Int32.lt_iff_toInt_lt, Int32.le_iff_toInt_le, ← Int32.toInt_inj, Int32.reduceToInt, n_1, n_2, n_8, Int32.toNatClampNeg, Int64.lt_iff_toInt_lt, Int64.le_iff_toInt_le, ← Int64.toInt_inj, Int64.reduceToInt, Int32.toInt_toInt64, lg_cmp_ge, lg_cmp_le, lg_cmp_gt, lg_cmp_lt, lg_cmp_eq, Bool.false_eq_true, Bool.true_eq_false, reduceCtorEq, false_iff, true_iff, iff_true, iff_false, and_true, true_and, and_false, false_and, reduceIte, ite_true, ite_false, eq_self] at *)) <;> omega)) P_DOC) (rfl) rfl rfl (zr (by omega)) mk_X12_char1 ly_84 ml_12_586 (Nat.le_of_ble_eq_true rfl) (fun x11 s10 hs10 => ?_)
          obtain ⟨zs10, cx11_1, -⟩ := pI hs10
          subst zs10
          refine wa_aload_n (i := 2) rfl rfl ?_
          refine wa_iload_n (i := 3) rfl rfl ?_
          refine wa_Ti (d9 := d - 1) a1 [.int _] [.int x11] (sp_J0_charAt_5068e G (d := d - 1) (by omega) σ a1 ha1 l3 (by ((try simp only [vp_in_iff, Int32.lt_iff_toInt_lt, Int32.le_iff_toInt_le, ← Int32.toInt_inj, Int32.reduceToInt, n_1, n_2, n_8, Int32.toNatClampNeg, Int64.lt_iff_toInt_lt, Int64.le_iff_toInt_le, ← Int64.toInt_inj, Int64.reduceToInt, Int32.toInt_toInt64, lg_cmp_ge, lg_cmp_le, lg_cmp_gt, lg_cmp_lt, lg_cmp_eq, Bool.false_eq_true, Bool.true_eq_false, reduceCtorEq, false_iff, true_iff, iff_true, iff_false, and_true, true_and, and_false, false_and, reduceIte, ite_true, ite_false, eq_self] at *)) <;> omega) (show (l3).toInt < (a1.2.2.2.2.1 : Int) from by ((try simp only [vp_in_iff, Int32.lt_iff_toInt_lt, Int32.le_iff_toInt_le, ← Int32.toInt_inj, Int32.reduceToInt, n_1, n_2, n_8, Int32.toNatClampNeg, Int64.lt_iff_toInt_lt, Int64.le_iff_toInt_le, ← Int64.toInt_inj, Int64.reduceToInt, Int32.toInt_toInt64, lg_cmp_ge, lg_cmp_le, lg_cmp_gt, lg_cmp_lt, lg_cmp_eq, Bool.false_eq_true, Bool.true_eq_false, reduceCtorEq, false_iff, true_iff, iff_true, iff_false, and_true, true_and, and_false, false_and, reduceIte, ite_true, ite_false, eq_self] at *)) <;> omega)) rfl rfl rfl (zr (by omega)) mk_J0_charAt_5068e ha1 ml_12_590 (Nat.le_of_ble_eq_true rfl) (fun x12 s13 hs13 => ?_)
          obtain ⟨zs13, cx12, -⟩ := pI hs13
          subst zs13
          refine wa_icmp_eq o_X12_isText_47 (by decide) (fun h14 => ?_) (fun h14 => ?_)
          · refine wa_iinc (v := (1)) (lv' := fun y15 => [(3, .int y15), (0, .ref 84), (1, .int a0), (2, .ref (1000 + a1.1))]) (by decide) rfl (by decide) (fun _ => rfl) (fun y15 hy15 => ?_)
            replace hy15 := hy15.symm
            first | (refine i_addK hy15 ?_ ?_ (fun ty15 => ?_); (((try simp only [vp_in_iff, Int32.lt_iff_toInt_lt, Int32.le_iff_toInt_le, ← Int32.toInt_inj, Int32.reduceToInt, n_1, n_2, n_8, Int32.toNatClampNeg, Int64.lt_iff_toInt_lt, Int64.le_iff_toInt_le, ← Int64.toInt_inj, Int64.reduceToInt, Int32.toInt_toInt64, lg_cmp_ge, lg_cmp_le, lg_cmp_gt, lg_cmp_lt, lg_cmp_eq, Bool.false_eq_true, Bool.true_eq_false, reduceCtorEq, false_iff, true_iff, iff_true, iff_false, and_true, true_and, and_false, false_and, reduceIte, ite_true, ite_false, eq_self] at *)) <;> omega); (((try simp only [vp_in_iff, Int32.lt_iff_toInt_lt, Int32.le_iff_toInt_le, ← Int32.toInt_inj, Int32.reduceToInt, n_1, n_2, n_8, Int32.toNatClampNeg, Int64.lt_iff_toInt_lt, Int64.le_iff_toInt_le, ← Int64.toInt_inj, Int64.reduceToInt, Int32.toInt_toInt64, lg_cmp_ge, lg_cmp_le, lg_cmp_gt, lg_cmp_lt, lg_cmp_eq, Bool.false_eq_true, Bool.true_eq_false, reduceCtorEq, false_iff, true_iff, iff_true, iff_false, and_true, true_and, and_false, false_and, reduceIte, ite_true, ite_false, eq_self] at *)) <;> omega)) | skip
            refine wa_goto o_X12_isText_17 (by decide) ?_
            refine wa_pick [1, 2, 3, 0] rfl ?_
            exact ih4 _ (by ((try simp only [vp_in_iff, Int32.lt_iff_toInt_lt, Int32.le_iff_toInt_le, ← Int32.toInt_inj, Int32.reduceToInt, n_1, n_2, n_8, Int32.toNatClampNeg, Int64.lt_iff_toInt_lt, Int64.le_iff_toInt_le, ← Int64.toInt_inj, Int64.reduceToInt, Int32.toInt_toInt64, lg_cmp_ge, lg_cmp_le, lg_cmp_gt, lg_cmp_lt, lg_cmp_eq, Bool.false_eq_true, Bool.true_eq_false, reduceCtorEq, false_iff, true_iff, iff_true, iff_false, and_true, true_and, and_false, false_and, reduceIte, ite_true, ite_false, eq_self] at *)) <;> omega) _ ⟨(by ((try simp only [vp_in_iff, Int32.lt_iff_toInt_lt, Int32.le_iff_toInt_le, ← Int32.toInt_inj, Int32.reduceToInt, n_1, n_2, n_8, Int32.toNatClampNeg, Int64.lt_iff_toInt_lt, Int64.le_iff_toInt_le, ← Int64.toInt_inj, Int64.reduceToInt, Int32.toInt_toInt64, lg_cmp_ge, lg_cmp_le, lg_cmp_gt, lg_cmp_lt, lg_cmp_eq, Bool.false_eq_true, Bool.true_eq_false, reduceCtorEq, false_iff, true_iff, iff_true, iff_false, and_true, true_and, and_false, false_and, reduceIte, ite_true, ite_false, eq_self] at *)) <;> omega), (by exact txe_st (by assumption) (by assumption) (by assumption) (by assumption) (by ((try simp only [vp_in_iff, Int32.lt_iff_toInt_lt, Int32.le_iff_toInt_le, ← Int32.toInt_inj, Int32.reduceToInt, n_1, n_2, n_8, Int32.toNatClampNeg, Int64.lt_iff_toInt_lt, Int64.le_iff_toInt_le, ← Int64.toInt_inj, Int64.reduceToInt, Int32.toInt_toInt64, lg_cmp_ge, lg_cmp_le, lg_cmp_gt, lg_cmp_lt, lg_cmp_eq, Bool.false_eq_true, Bool.true_eq_false, reduceCtorEq, false_iff, true_iff, iff_true, iff_false, and_true, true_and, and_false, false_and, reduceIte, ite_true, ite_false, eq_self] at *)) <;> omega) (by ((try simp only [vp_in_iff, Int32.lt_iff_toInt_lt, Int32.le_iff_toInt_le, ← Int32.toInt_inj, Int32.reduceToInt, n_1, n_2, n_8, Int32.toNatClampNeg, Int64.lt_iff_toInt_lt, Int64.le_iff_toInt_le, ← Int64.toInt_inj, Int64.reduceToInt, Int32.toInt_toInt64, lg_cmp_ge, lg_cmp_le, lg_cmp_gt, lg_cmp_lt, lg_cmp_eq, Bool.false_eq_true, Bool.true_eq_false, reduceCtorEq, false_iff, true_iff, iff_true, iff_false, and_true, true_and, and_false, false_and, reduceIte, ite_true, ite_false, eq_self] at *)) <;> omega) (by ((try simp only [vp_in_iff, Int32.lt_iff_toInt_lt, Int32.le_iff_toInt_le, ← Int32.toInt_inj, Int32.reduceToInt, n_1, n_2, n_8, Int32.toNatClampNeg, Int64.lt_iff_toInt_lt, Int64.le_iff_toInt_le, ← Int64.toInt_inj, Int64.reduceToInt, Int32.toInt_toInt64, lg_cmp_ge, lg_cmp_le, lg_cmp_gt, lg_cmp_lt, lg_cmp_eq, Bool.false_eq_true, Bool.true_eq_false, reduceCtorEq, false_iff, true_iff, iff_true, iff_false, and_true, true_and, and_false, false_and, reduceIte, ite_true, ite_false, eq_self] at *)) <;> omega)), trivial⟩ rfl
          · have m2 := True.intro
            refine wa_iconst (v := 0) (by decide) ?_
            refine wa_zreturn false (rfl) rfl rfl ?_
            exact ⟨_, rfl, rfl, (by first | (have z9 := m1; exact txe_no1 (by assumption) (by assumption) (by ((try simp only [vp_in_iff, Int32.lt_iff_toInt_lt, Int32.le_iff_toInt_le, ← Int32.toInt_inj, Int32.reduceToInt, n_1, n_2, n_8, Int32.toNatClampNeg, Int64.lt_iff_toInt_lt, Int64.le_iff_toInt_le, ← Int64.toInt_inj, Int64.reduceToInt, Int32.toInt_toInt64, lg_cmp_ge, lg_cmp_le, lg_cmp_gt, lg_cmp_lt, lg_cmp_eq, Bool.false_eq_true, Bool.true_eq_false, reduceCtorEq, false_iff, true_iff, iff_true, iff_false, and_true, true_and, and_false, false_and, reduceIte, ite_true, ite_false, eq_self] at *)) <;> omega)) | (have z9 := m2; exact txe_no2 (by assumption) (by assumption) (by assumption) (by ((try simp only [vp_in_iff, Int32.lt_iff_toInt_lt, Int32.le_iff_toInt_le, ← Int32.toInt_inj, Int32.reduceToInt, n_1, n_2, n_8, Int32.toNatClampNeg, Int64.lt_iff_toInt_lt, Int64.le_iff_toInt_le, ← Int64.toInt_inj, Int64.reduceToInt, Int32.toInt_toInt64, lg_cmp_ge, lg_cmp_le, lg_cmp_gt, lg_cmp_lt, lg_cmp_eq, Bool.false_eq_true, Bool.true_eq_false, reduceCtorEq, false_iff, true_iff, iff_true, iff_false, and_true, true_and, and_false, false_and, reduceIte, ite_true, ite_false, eq_self] at *)) <;> omega) (by ((try simp only [vp_in_iff, Int32.lt_iff_toInt_lt, Int32.le_iff_toInt_le, ← Int32.toInt_inj, Int32.reduceToInt, n_1, n_2, n_8, Int32.toNatClampNeg, Int64.lt_iff_toInt_lt, Int64.le_iff_toInt_le, ← Int64.toInt_inj, Int64.reduceToInt, Int32.toInt_toInt64, lg_cmp_ge, lg_cmp_le, lg_cmp_gt, lg_cmp_lt, lg_cmp_eq, Bool.false_eq_true, Bool.true_eq_false, reduceCtorEq, false_iff, true_iff, iff_true, iff_false, and_true, true_and, and_false, false_and, reduceIte, ite_true, ite_false, eq_self] at *)) <;> omega)) | (have z9 := m3; exact txe_yes (by ((try simp only [vp_in_iff, Int32.lt_iff_toInt_lt, Int32.le_iff_toInt_le, ← Int32.toInt_inj, Int32.reduceToInt, n_1, n_2, n_8, Int32.toNatClampNeg, Int64.lt_iff_toInt_lt, Int64.le_iff_toInt_le, ← Int64.toInt_inj, Int64.reduceToInt, Int32.toInt_toInt64, lg_cmp_ge, lg_cmp_le, lg_cmp_gt, lg_cmp_lt, lg_cmp_eq, Bool.false_eq_true, Bool.true_eq_false, reduceCtorEq, false_iff, true_iff, iff_true, iff_false, and_true, true_and, and_false, false_and, reduceIte, ite_true, ite_false, eq_self] at *)) <;> omega) (by assumption) (by ((try simp only [vp_in_iff, Int32.lt_iff_toInt_lt, Int32.le_iff_toInt_le, ← Int32.toInt_inj, Int32.reduceToInt, n_1, n_2, n_8, Int32.toNatClampNeg, Int64.lt_iff_toInt_lt, Int64.le_iff_toInt_le, ← Int64.toInt_inj, Int64.reduceToInt, Int32.toInt_toInt64, lg_cmp_ge, lg_cmp_le, lg_cmp_gt, lg_cmp_lt, lg_cmp_eq, Bool.false_eq_true, Bool.true_eq_false, reduceCtorEq, false_iff, true_iff, iff_true, iff_false, and_true, true_and, and_false, false_and, reduceIte, ite_true, ite_false, eq_self] at *)) <;> omega))), trivial⟩
    exact hi5 _ _ ⟨(by ((try simp only [vp_in_iff, Int32.lt_iff_toInt_lt, Int32.le_iff_toInt_le, ← Int32.toInt_inj, Int32.reduceToInt, n_1, n_2, n_8, Int32.toNatClampNeg, Int64.lt_iff_toInt_lt, Int64.le_iff_toInt_le, ← Int64.toInt_inj, Int64.reduceToInt, Int32.toInt_toInt64, lg_cmp_ge, lg_cmp_le, lg_cmp_gt, lg_cmp_lt, lg_cmp_eq, Bool.false_eq_true, Bool.true_eq_false, reduceCtorEq, false_iff, true_iff, iff_true, iff_false, and_true, true_and, and_false, false_and, reduceIte, ite_true, ite_false, eq_self] at *)) <;> omega), (by exact no_0 (by decide)), trivial⟩ rfl
  · have m1 := True.intro
    refine wa_iconst (v := 0) (by decide) ?_
    refine wa_zreturn false (rfl) rfl rfl ?_
    exact ⟨_, rfl, rfl, (by first | (have z9 := m1; exact txe_no1 (by assumption) (by assumption) (by ((try simp only [vp_in_iff, Int32.lt_iff_toInt_lt, Int32.le_iff_toInt_le, ← Int32.toInt_inj, Int32.reduceToInt, n_1, n_2, n_8, Int32.toNatClampNeg, Int64.lt_iff_toInt_lt, Int64.le_iff_toInt_le, ← Int64.toInt_inj, Int64.reduceToInt, Int32.toInt_toInt64, lg_cmp_ge, lg_cmp_le, lg_cmp_gt, lg_cmp_lt, lg_cmp_eq, Bool.false_eq_true, Bool.true_eq_false, reduceCtorEq, false_iff, true_iff, iff_true, iff_false, and_true, true_and, and_false, false_and, reduceIte, ite_true, ite_false, eq_self] at *)) <;> omega)) | (have z9 := m2; exact txe_no2 (by assumption) (by assumption) (by assumption) (by ((try simp only [vp_in_iff, Int32.lt_iff_toInt_lt, Int32.le_iff_toInt_le, ← Int32.toInt_inj, Int32.reduceToInt, n_1, n_2, n_8, Int32.toNatClampNeg, Int64.lt_iff_toInt_lt, Int64.le_iff_toInt_le, ← Int64.toInt_inj, Int64.reduceToInt, Int32.toInt_toInt64, lg_cmp_ge, lg_cmp_le, lg_cmp_gt, lg_cmp_lt, lg_cmp_eq, Bool.false_eq_true, Bool.true_eq_false, reduceCtorEq, false_iff, true_iff, iff_true, iff_false, and_true, true_and, and_false, false_and, reduceIte, ite_true, ite_false, eq_self] at *)) <;> omega) (by ((try simp only [vp_in_iff, Int32.lt_iff_toInt_lt, Int32.le_iff_toInt_le, ← Int32.toInt_inj, Int32.reduceToInt, n_1, n_2, n_8, Int32.toNatClampNeg, Int64.lt_iff_toInt_lt, Int64.le_iff_toInt_le, ← Int64.toInt_inj, Int64.reduceToInt, Int32.toInt_toInt64, lg_cmp_ge, lg_cmp_le, lg_cmp_gt, lg_cmp_lt, lg_cmp_eq, Bool.false_eq_true, Bool.true_eq_false, reduceCtorEq, false_iff, true_iff, iff_true, iff_false, and_true, true_and, and_false, false_and, reduceIte, ite_true, ite_false, eq_self] at *)) <;> omega)) | (have z9 := m3; exact txe_yes (by ((try simp only [vp_in_iff, Int32.lt_iff_toInt_lt, Int32.le_iff_toInt_le, ← Int32.toInt_inj, Int32.reduceToInt, n_1, n_2, n_8, Int32.toNatClampNeg, Int64.lt_iff_toInt_lt, Int64.le_iff_toInt_le, ← Int64.toInt_inj, Int64.reduceToInt, Int32.toInt_toInt64, lg_cmp_ge, lg_cmp_le, lg_cmp_gt, lg_cmp_lt, lg_cmp_eq, Bool.false_eq_true, Bool.true_eq_false, reduceCtorEq, false_iff, true_iff, iff_true, iff_false, and_true, true_and, and_false, false_and, reduceIte, ite_true, ite_false, eq_self] at *)) <;> omega) (by assumption) (by ((try simp only [vp_in_iff, Int32.lt_iff_toInt_lt, Int32.le_iff_toInt_le, ← Int32.toInt_inj, Int32.reduceToInt, n_1, n_2, n_8, Int32.toNatClampNeg, Int64.lt_iff_toInt_lt, Int64.le_iff_toInt_le, ← Int64.toInt_inj, Int64.reduceToInt, Int32.toInt_toInt64, lg_cmp_ge, lg_cmp_le, lg_cmp_gt, lg_cmp_lt, lg_cmp_eq, Bool.false_eq_true, Bool.true_eq_false, reduceCtorEq, false_iff, true_iff, iff_true, iff_false, and_true, true_and, and_false, false_and, reduceIte, ite_true, ite_false, eq_self] at *)) <;> omega))), trivial⟩
