-- ===== what a formula's steps are worth: forms, conditions, in a choice of cases =====
abbrev Fo9 : Type := Int × Int × Int × Int × Int × Int
abbrev Rw9 : Type := Int × Int × Int × Int × Int × Int
def bel (a : Fo9) : Int := a.2.2.2.2.2
def zF9 : Fo9 := (0, 0, 0, 0, 0, 1)
def num9 (n : Int) : Fo9 := (0, 0, 0, 0, n, 1)
def var9 (v : Int) : Fo9 := (if v = 0 then 1 else 0, if v = 1 then 1 else 0, if v = 2 then 1 else 0, if v = 3 then 1 else 0, 0, 1)
def mul9 (k : Int) (a : Fo9) : Fo9 := (k * a.1, k * a.2.1, k * a.2.2.1, k * a.2.2.2.1, k * a.2.2.2.2.1, a.2.2.2.2.2)
def lcd9 (x y : Int) : Int := x / (Int.gcd x y : Int) * y
def com9 (s : Int) (a b : Fo9) : Fo9 :=
  (a.1 * (lcd9 (bel a) (bel b) / bel a) + s * b.1 * (lcd9 (bel a) (bel b) / bel b), a.2.1 * (lcd9 (bel a) (bel b) / bel a) + s * b.2.1 * (lcd9 (bel a) (bel b) / bel b),
   a.2.2.1 * (lcd9 (bel a) (bel b) / bel a) + s * b.2.2.1 * (lcd9 (bel a) (bel b) / bel b), a.2.2.2.1 * (lcd9 (bel a) (bel b) / bel a) + s * b.2.2.2.1 * (lcd9 (bel a) (bel b) / bel b),
   a.2.2.2.2.1 * (lcd9 (bel a) (bel b) / bel a) + s * b.2.2.2.2.1 * (lcd9 (bel a) (bel b) / bel b), lcd9 (bel a) (bel b))
def far9 (x n : Int) : Bool := decide (n < x ∨ x < -n)
def big9 (a : Fo9) : Bool := far9 a.1 1000000 || far9 a.2.1 1000000 || far9 a.2.2.1 1000000 || far9 a.2.2.2.1 1000000 || far9 a.2.2.2.2.1 1000000
/-- a form <= 0 (s = 1), or >= 0 (s = -1), less e -/
def lin9 (a : Fo9) (s e : Int) : Rw9 := (s * a.1, s * a.2.1, s * a.2.2.1, s * a.2.2.2.1, -s * a.2.2.2.2.1 - e, 0)
def lng9 (a : Fo9) (s e : Int) : Bool := far9 (s * a.1) 20 || far9 (s * a.2.1) 20 || far9 (s * a.2.2.1) 20 || far9 (s * a.2.2.2.1) 20 || far9 (-s * a.2.2.2.2.1 - e) 99999
def dvd9 (a : Fo9) (n : Int) : Rw9 := (a.1 % (n * bel a), a.2.1 % (n * bel a), a.2.2.1 % (n * bel a), a.2.2.2.1 % (n * bel a), a.2.2.2.2.1 % (n * bel a), n * bel a)
def dvg9 (a : Fo9) (n : Int) : Bool := decide (12 < n * bel a)
def sub9 (a : Fo9) (r : Nat) : Fo9 := (a.1, a.2.1, a.2.2.1, a.2.2.2.1, a.2.2.2.2.1 - r * bel a, bel a)
/-- a word in its case r: its form, its condition, whether it is too great -/
def wrd9 (k n : Int) (r : Nat) (a b : Fo9) : Fo9 × Rw9 × Bool :=
  if k = 8 then (if r = 0 then a else mul9 (-1) a, lin9 a (-1) 0, lng9 a (-1) 0)
  else if k = 9 ∨ k = 10 then (if r = 0 then a else b, lin9 (com9 (-1) a b) (if k = 9 then 1 else -1) 0, big9 (com9 (-1) a b) || lng9 (com9 (-1) a b) (if k = 9 then 1 else -1) 0)
  else (if k = 11 then ((sub9 a r).1, (sub9 a r).2.1, (sub9 a r).2.2.1, (sub9 a r).2.2.2.1, (sub9 a r).2.2.2.2.1, bel a * n) else num9 r, dvd9 (sub9 a r) n, big9 (sub9 a r) || dvg9 (sub9 a r) n)
abbrev Ev9 : Type := List Fo9 × List Nat × List Rw9 × Bool
def top9 (S : List Fo9) : Fo9 := S.headD zF9
def ev1 (s : Ev9) (op : Int) : Ev9 :=
  if op % 64 = 41 then (var9 (op / 64) :: s.1, s.2.1, s.2.2.1, s.2.2.2)
  else if op % 64 = 2 then (num9 (op / 64) :: s.1, s.2.1, s.2.2.1, s.2.2.2)
  else if op % 64 = 13 then (mul9 (op / 64) (top9 s.1) :: s.1.tail, s.2.1, s.2.2.1, s.2.2.2)
  else if op % 64 = 12 then (mul9 (-1) (top9 s.1) :: s.1.tail, s.2.1, s.2.2.1, s.2.2.2)
  else if op % 64 = 11 then (com9 1 (top9 s.1.tail) (top9 s.1) :: s.1.tail.tail, s.2.1, s.2.2.1, s.2.2.2)
  else if op % 64 = 28 ∨ op % 64 = 31 ∨ op % 64 = 32 then ((wrd9 (op % 64 - 20) (op / 64) (s.2.1.headD 0) (top9 s.1) zF9).1 :: s.1.tail, s.2.1.tail, s.2.2.1 ++ [(wrd9 (op % 64 - 20) (op / 64) (s.2.1.headD 0) (top9 s.1) zF9).2.1], s.2.2.2 || (wrd9 (op % 64 - 20) (op / 64) (s.2.1.headD 0) (top9 s.1) zF9).2.2)
  else if op % 64 = 29 ∨ op % 64 = 30 then ((wrd9 (op % 64 - 20) (op / 64) (s.2.1.headD 0) (top9 s.1.tail) (top9 s.1)).1 :: s.1.tail.tail, s.2.1.tail, s.2.2.1 ++ [(wrd9 (op % 64 - 20) (op / 64) (s.2.1.headD 0) (top9 s.1.tail) (top9 s.1)).2.1], s.2.2.2 || (wrd9 (op % 64 - 20) (op / 64) (s.2.1.headD 0) (top9 s.1.tail) (top9 s.1)).2.2)
  else (s.1, s.2.1, s.2.2.1, s.2.2.2 || big9 (top9 s.1))
-- the reference's rows of terms: of a part its sign, how many times, of which term (-1: a number alone); of a term its kind, two numbers, its parts
abbrev PaR : Type := Int × Int × Int
abbrev TeR : Type := Int × Int × Int × List PaR
def at9 (v : List Fo9) (r : Int) : Fo9 := v.getD r.toNat zF9
def prt9 (v : List Fo9) (p : PaR) : Fo9 := if p.2.2 = -1 then num9 p.2.1 else mul9 p.2.1 (at9 v p.2.2)
def tot9 (v : List Fo9) (ps : List PaR) : Fo9 × Bool := ps.foldl (fun a p => (com9 1 a.1 (mul9 p.1 (prt9 v p)), a.2 || big9 (prt9 v p))) (zF9, false)
def rv1 (s : Ev9) (e : TeR) : Ev9 :=
  if e.1 = 31 then (s.1 ++ [var9 e.2.1], s.2.1, s.2.2.1, s.2.2.2)
  else if e.1 = 30 then (s.1 ++ [(tot9 s.1 e.2.2.2).1], s.2.1, s.2.2.1, s.2.2.2 || ((tot9 s.1 e.2.2.2).2 || big9 (tot9 s.1 e.2.2.2).1))
  else if e.1 = 32 then (s.1 ++ [at9 s.1 e.2.1], s.2.1, s.2.2.1, s.2.2.2)
  else if e.1 = 9 ∨ e.1 = 10 then (s.1 ++ [(wrd9 e.1 0 (s.2.1.headD 0) (at9 s.1 e.2.1) (at9 s.1 e.2.2.1)).1], s.2.1.tail, s.2.2.1 ++ [(wrd9 e.1 0 (s.2.1.headD 0) (at9 s.1 e.2.1) (at9 s.1 e.2.2.1)).2.1], s.2.2.2 || (wrd9 e.1 0 (s.2.1.headD 0) (at9 s.1 e.2.1) (at9 s.1 e.2.2.1)).2.2)
  else (s.1 ++ [(wrd9 e.1 e.2.2.1 (s.2.1.headD 0) (at9 s.1 e.2.1) zF9).1], s.2.1.tail, s.2.2.1 ++ [(wrd9 e.1 e.2.2.1 (s.2.1.headD 0) (at9 s.1 e.2.1) zF9).2.1], s.2.2.2 || (wrd9 e.1 e.2.2.1 (s.2.1.headD 0) (at9 s.1 e.2.1) zF9).2.2)
/-- how many cases a step, a term falls into -/
def wyc (op : Int) : List Nat := if 28 ≤ op % 64 ∧ op % 64 ≤ 30 then [2] else if op % 64 = 31 ∨ op % 64 = 32 then [(op / 64).toNat] else []
def wyt (e : TeR) : List Nat := if 8 ≤ e.1 ∧ e.1 ≤ 10 then [2] else if e.1 = 11 ∨ e.1 = 12 then [e.2.2.1.toNat] else []
def wc9 (c : List Int) : List Nat := c.flatMap wyc
def wt9 (ts : List TeR) : List Nat := ts.flatMap wyt
theorem mul9_one (a : Fo9) : mul9 1 a = a := by simp [mul9]
theorem far9_neg (x n : Int) : far9 (-x) n = far9 x n := by
  unfold far9
  by_cases c : n < x ∨ x < -n
  · rw [decide_eq_true c, decide_eq_true (by omega)]
  · rw [decide_eq_false c, decide_eq_false (by omega)]
theorem big9_neg (a : Fo9) : big9 (mul9 (-1) a) = big9 a := by
  simp only [big9, mul9, Int.neg_one_mul, far9_neg]
theorem lcd9_pos {x y : Int} (hx : 1 ≤ x) (hy : 1 ≤ y) : 1 ≤ lcd9 x y := by
  unfold lcd9
  have g0 : 0 < Int.gcd x y := Int.gcd_pos_of_ne_zero_left y (by omega)
  have h1 : (Int.gcd x y : Int) ∣ x := Int.gcd_dvd_left ..
  have h2 : 1 ≤ x / (Int.gcd x y : Int) := by
    have := Int.le_of_dvd (by omega) h1
    exact (Int.le_ediv_iff_mul_le (by omega)).mpr (by omega)
  have h3 : (1 : Int) * 1 ≤ x / (Int.gcd x y : Int) * y := Int.mul_le_mul h2 hy (by omega) (by omega)
  omega
theorem com9_bel {s : Int} {a b : Fo9} (ha : 1 ≤ bel a) (hb : 1 ≤ bel b) : 1 ≤ bel (com9 s a b) := lcd9_pos ha hb
theorem com9_zero {a : Fo9} (ha : 1 ≤ bel a) : com9 1 zF9 a = a := by
  have e : lcd9 1 (bel a) = bel a := by
    unfold lcd9
    rw [show Int.gcd 1 (bel a) = 1 from Int.one_gcd ..]
    simp
  have f : bel a / bel a = 1 := Int.ediv_self (by omega)
  obtain ⟨a0, a1, a2, a3, a4, a5⟩ := a
  have e' : lcd9 1 a5 = a5 := e
  have f' : a5 / a5 = 1 := f
  simp [com9, zF9, bel, e', f']
theorem at9_app {v w : List Fo9} {r : Int} (h : r.toNat < v.length) : at9 (v ++ w) r = at9 v r := by
  simp only [at9, List.getD_eq_getElem?_getD]
  rw [List.getElem?_append_left h]
theorem at9_last {v : List Fo9} {a : Fo9} {r : Int} (h : r.toNat = v.length) : at9 (v ++ [a]) r = a := by
  simp [at9, List.getD_eq_getElem?_getD, h]
/-- parts that speak of terms that are there -/
def PIN (n : Nat) (ps : List PaR) : Prop := ∀ p, p ∈ ps → p.2.2 = -1 ∨ (0 ≤ p.2.2 ∧ p.2.2.toNat < n)
theorem prt9_app {v w : List Fo9} {p : PaR} (h : p.2.2 = -1 ∨ (0 ≤ p.2.2 ∧ p.2.2.toNat < v.length)) : prt9 (v ++ w) p = prt9 v p := by
  unfold prt9
  rcases h with h | h
  · rw [if_pos h, if_pos h]
  · rw [if_neg (by omega), if_neg (by omega), at9_app h.2]
theorem tot9_app {v w : List Fo9} {ps : List PaR} (h : PIN v.length ps) : tot9 (v ++ w) ps = tot9 v ps := by
  unfold tot9
  have key : ∀ (ps : List PaR) (a : Fo9 × Bool), PIN v.length ps → ps.foldl (fun a p => (com9 1 a.1 (mul9 p.1 (prt9 (v ++ w) p)), a.2 || big9 (prt9 (v ++ w) p))) a = ps.foldl (fun a p => (com9 1 a.1 (mul9 p.1 (prt9 v p)), a.2 || big9 (prt9 v p))) a := by
    intro ps
    induction ps with
    | nil => intro a _; rfl
    | cons p ps ih =>
      intro a hp
      simp only [List.foldl_cons]
      rw [prt9_app (hp p (by simp))]
      exact ih _ (fun q hq => hp q (by simp [hq]))
  exact key ps _ h
theorem tot9_snoc (v : List Fo9) (ps : List PaR) (p : PaR) : tot9 v (ps ++ [p]) = (com9 1 (tot9 v ps).1 (mul9 p.1 (prt9 v p)), (tot9 v ps).2 || big9 (prt9 v p)) := by
  simp [tot9, List.foldl_append]
/-- a factor's steps c, and the terms that it adds: alike in every choice -/
def SEMF (c : List Int) (ts ts' : List TeR) (r : Int) : Prop :=
  (0 ≤ r ∧ r.toNat < ts'.length) ∧ ∃ new, ts' = ts ++ new ∧ wc9 c = wt9 new ∧ ∀ (v : List Fo9) (ch : List Nat) (K : List Rw9) (S : List Fo9), v.length = ts.length →
    ∃ F nv ch' K' h, nv.length = new.length ∧ (∀ g, new.foldl rv1 (v, ch, K, g) = (v ++ nv, ch', K', g || h)) ∧ (∀ g, c.foldl ev1 (S, ch, K, g) = (F :: S, ch', K', g || h)) ∧ at9 (v ++ nv) r = F ∧ 1 ≤ bel F
/-- the same of parts that are not yet summed up -/
def SEMP (c : List Int) (ts ts' : List TeR) (ps : List PaR) : Prop :=
  PIN ts'.length ps ∧ ∃ new, ts' = ts ++ new ∧ wc9 c = wt9 new ∧ ∀ (v : List Fo9) (ch : List Nat) (K : List Rw9) (S : List Fo9), v.length = ts.length →
    ∃ F nv ch' K' h p, nv.length = new.length ∧ (∀ g, new.foldl rv1 (v, ch, K, g) = (v ++ nv, ch', K', g || h)) ∧ (∀ g, c.foldl ev1 (S, ch, K, g) = (F :: S, ch', K', g || (h || p))) ∧ tot9 (v ++ nv) ps = (F, p) ∧ 1 ≤ bel F
/-- of one part -/
def SEMQ (c : List Int) (ts ts' : List TeR) (q : PaR) : Prop :=
  (q.2.2 = -1 ∨ (0 ≤ q.2.2 ∧ q.2.2.toNat < ts'.length)) ∧ ∃ new, ts' = ts ++ new ∧ wc9 c = wt9 new ∧ ∀ (v : List Fo9) (ch : List Nat) (K : List Rw9) (S : List Fo9), v.length = ts.length →
    ∃ nv ch' K' h, nv.length = new.length ∧ (∀ g, new.foldl rv1 (v, ch, K, g) = (v ++ nv, ch', K', g || h)) ∧ (∀ g, c.foldl ev1 (S, ch, K, g) = (mul9 q.1 (prt9 (v ++ nv) q) :: S, ch', K', g || (h || big9 (prt9 (v ++ nv) q)))) ∧ 1 ≤ bel (mul9 q.1 (prt9 (v ++ nv) q))
theorem wc9_app (a b : List Int) : wc9 (a ++ b) = wc9 a ++ wc9 b := by simp [wc9]
theorem wt9_app (a b : List TeR) : wt9 (a ++ b) = wt9 a ++ wt9 b := by simp [wt9]
theorem bool3 (g h p : Bool) : (g || (h || p)) = (g || h || p) := by cases g <;> cases h <;> cases p <;> rfl
theorem ev1_43 (F : Fo9) (S : List Fo9) (ch : List Nat) (K : List Rw9) (g : Bool) : ev1 (F :: S, ch, K, g) 43 = (F :: S, ch, K, g || big9 F) := by simp [ev1, top9]
theorem ev1_12 (F : Fo9) (S : List Fo9) (ch : List Nat) (K : List Rw9) (g : Bool) : ev1 (F :: S, ch, K, g) 12 = (mul9 (-1) F :: S, ch, K, g) := by simp [ev1, top9]
theorem ev1_11 (F E : Fo9) (S : List Fo9) (ch : List Nat) (K : List Rw9) (g : Bool) : ev1 (F :: E :: S, ch, K, g) 11 = (com9 1 E F :: S, ch, K, g) := by simp [ev1, top9]
theorem ev1_13 {n : Int} (F : Fo9) (S : List Fo9) (ch : List Nat) (K : List Rw9) (g : Bool) : ev1 (F :: S, ch, K, g) (13 + 64 * n) = (mul9 n F :: S, ch, K, g) := by
  have h1 : (13 + 64 * n) % 64 = 13 := by omega
  have h2 : (13 + 64 * n) / 64 = n := by omega
  simp [ev1, top9, h1, h2]
theorem ev1_2 {n : Int} (S : List Fo9) (ch : List Nat) (K : List Rw9) (g : Bool) : ev1 (S, ch, K, g) (2 + 64 * n) = (num9 n :: S, ch, K, g) := by
  have h1 : (2 + 64 * n) % 64 = 2 := by omega
  have h2 : (2 + 64 * n) / 64 = n := by omega
  simp [ev1, h1, h2]
theorem ev1_41 {n : Int} (S : List Fo9) (ch : List Nat) (K : List Rw9) (g : Bool) : ev1 (S, ch, K, g) (41 + 64 * n) = (var9 n :: S, ch, K, g) := by
  have h1 : (41 + 64 * n) % 64 = 41 := by omega
  have h2 : (41 + 64 * n) / 64 = n := by omega
  simp [ev1, h1, h2]
theorem wyc_no {op : Int} (h : op % 64 < 28 ∨ 32 < op % 64) : wyc op = [] := by
  unfold wyc; rw [if_neg (by omega), if_neg (by omega)]
/-- the sign and the check behind a part -/
theorem cN_ev (neg : Bool) (F : Fo9) (S : List Fo9) (ch : List Nat) (K : List Rw9) (g : Bool) : (cN neg ++ [43]).foldl ev1 (F :: S, ch, K, g) = (mul9 (if neg = true then -1 else 1) F :: S, ch, K, g || big9 F) := by
  cases neg
  · simp [cN, ev1_43, mul9_one]
  · simp [cN, ev1_12, ev1_43, big9_neg]
theorem cN_wc (neg : Bool) : wc9 (cN neg ++ [43]) = [] := by cases neg <;> simp [cN, wc9, wyc]
theorem bel_mul (k : Int) (a : Fo9) : bel (mul9 k a) = bel a := rfl
theorem semf_var {v : Int} (ts : List TeR) : SEMF [41 + 64 * v] ts (ts ++ [(31, v, 0, [])]) ts.length := by
  refine ⟨⟨by omega, by simp⟩, [(31, v, 0, [])], rfl, ?_, ?_⟩
  · simp only [wc9, wt9, List.flatMap_cons, List.flatMap_nil, List.append_nil]
    rw [wyc_no (by omega)]; simp [wyt]
  · intro v' ch K S hv
    refine ⟨var9 v, [var9 v], ch, K, false, rfl, ?_, ?_, ?_, by simp [var9, bel]⟩
    · intro g; simp [rv1]
    · intro g; simp only [List.foldl_cons, List.foldl_nil, ev1_41, Bool.or_false]
    · exact at9_last (by omega)
theorem semq_num {n : Int} (neg : Bool) (ts : List TeR) : SEMQ ([2 + 64 * n] ++ cN neg ++ [43]) ts ts (if neg = true then -1 else 1, n, -1) := by
  refine ⟨Or.inl rfl, [], by simp, ?_, ?_⟩
  · rw [List.append_assoc, wc9_app, cN_wc]; simp only [wc9, wt9, List.flatMap_cons, List.flatMap_nil, List.append_nil]; rw [wyc_no (by omega)]
  · intro v ch K S hv
    refine ⟨[], ch, K, false, rfl, fun g => by simp, ?_, by rw [bel_mul]; simp [prt9, num9, bel]⟩
    intro g
    rw [List.append_assoc, List.foldl_append]
    simp only [List.foldl_cons, List.foldl_nil, ev1_2]
    rw [cN_ev]; simp [prt9]
theorem semq_fac {c : List Int} {ts ts' : List TeR} {r : Int} (neg : Bool) (h : SEMF c ts ts' r) : SEMQ (c ++ cN neg ++ [43]) ts ts' (if neg = true then -1 else 1, 1, r) := by
  obtain ⟨hr, new, e, w, f⟩ := h
  refine ⟨Or.inr hr, new, e, ?_, ?_⟩
  · rw [List.append_assoc, wc9_app, cN_wc, List.append_nil, w]
  · intro v ch K S hv
    obtain ⟨F, nv, ch', K', h, a1, a2, a3, a4, a5⟩ := f v ch K S hv
    have q : prt9 (v ++ nv) (if neg = true then -1 else 1, 1, r) = F := by
      unfold prt9; rw [if_neg (by show ¬ r = -1; omega), a4]; exact mul9_one F
    refine ⟨nv, ch', K', h, a1, a2, ?_, by rw [q, bel_mul]; exact a5⟩
    intro g
    rw [List.append_assoc, List.foldl_append, a3, cN_ev, q, bool3]
theorem semq_tim {c : List Int} {ts ts' : List TeR} {r n : Int} (neg : Bool) (h : SEMF c ts ts' r) : SEMQ (c ++ [13 + 64 * n] ++ cN neg ++ [43]) ts ts' (if neg = true then -1 else 1, n, r) := by
  obtain ⟨hr, new, e, w, f⟩ := h
  refine ⟨Or.inr hr, new, e, ?_, ?_⟩
  · rw [List.append_assoc, wc9_app, cN_wc, List.append_nil, wc9_app, w]
    simp only [wc9, List.flatMap_cons, List.flatMap_nil, List.append_nil]; rw [wyc_no (by omega), List.append_nil]
  · intro v ch K S hv
    obtain ⟨F, nv, ch', K', h, a1, a2, a3, a4, a5⟩ := f v ch K S hv
    have q : prt9 (v ++ nv) (if neg = true then -1 else 1, n, r) = mul9 n F := by
      unfold prt9; rw [if_neg (by show ¬ r = -1; omega), a4]
    refine ⟨nv, ch', K', h, a1, a2, ?_, by rw [q, bel_mul, bel_mul]; exact a5⟩
    intro g
    rw [List.append_assoc, List.foldl_append, List.foldl_append (l := c) (l' := [13 + 64 * n]), a3, q]
    simp only [List.foldl_cons, List.foldl_nil, ev1_13]
    rw [cN_ev, bool3]
theorem semp_one {c : List Int} {ts ts' : List TeR} {q : PaR} (h : SEMQ c ts ts' q) : SEMP c ts ts' [q] := by
  obtain ⟨hr, new, e, w, f⟩ := h
  refine ⟨fun p hp => by rw [List.mem_singleton] at hp; rw [hp]; exact hr, new, e, w, ?_⟩
  intro v ch K S hv
  obtain ⟨nv, ch', K', h, a1, a2, a3, a4⟩ := f v ch K S hv
  refine ⟨_, nv, ch', K', h, _, a1, a2, a3, ?_, a4⟩
  show (com9 1 zF9 _, (false || _)) = _
  rw [com9_zero a4, Bool.false_or]
theorem semp_go {c d : List Int} {ts t1 ts' : List TeR} {ps : List PaR} {q : PaR} (h1 : SEMP c ts t1 ps) (h2 : SEMQ d t1 ts' q) : SEMP (c ++ d ++ [11]) ts ts' (ps ++ [q]) := by
  obtain ⟨hp, n1, e1, w1, f1⟩ := h1
  obtain ⟨hr, n2, e2, w2, f2⟩ := h2
  refine ⟨?_, n1 ++ n2, by rw [e2, e1, List.append_assoc], ?_, ?_⟩
  · intro p hp'
    rcases List.mem_append.mp hp' with g | g
    · rcases hp p g with k | k
      · exact Or.inl k
      · exact Or.inr ⟨k.1, by rw [e2, List.length_append]; omega⟩
    · rw [List.mem_singleton] at g; rw [g]; exact hr
  · rw [wc9_app, wc9_app, wt9_app, w1, w2]; simp [wc9, wyc]
  · intro v ch K S hv
    obtain ⟨F, nv, ch', K', h, p, a1, a2, a3, a4, a5⟩ := f1 v ch K S hv
    obtain ⟨nw, ch2, K2, h2, b1, b2, b3, b4⟩ := f2 (v ++ nv) ch' K' (F :: S) (by rw [e1, List.length_append, List.length_append]; omega)
    have q2 : tot9 (v ++ nv ++ nw) (ps ++ [q]) = (com9 1 F (mul9 q.1 (prt9 (v ++ nv ++ nw) q)), p || big9 (prt9 (v ++ nv ++ nw) q)) := by
      rw [tot9_snoc, tot9_app (v := v ++ nv) (by rw [List.length_append, a1, hv, ← List.length_append, ← e1]; exact hp), a4]
    refine ⟨_, nv ++ nw, ch2, K2, h || h2, _, by simp [a1, b1], ?_, ?_, by rw [← List.append_assoc]; exact q2, com9_bel a5 b4⟩
    · intro g
      rw [List.foldl_append, a2, b2, List.append_assoc]; simp [Bool.or_assoc]
    · intro g
      rw [List.foldl_append, List.foldl_append, a3, b3]
      simp only [List.foldl_cons, List.foldl_nil, ev1_11]
      congr 3
      cases g <;> cases h <;> cases h2 <;> cases p <;> rfl
/-- a term is summed up -/
theorem semf_sum {c : List Int} {ts ts' : List TeR} {ps : List PaR} (h : SEMP c ts ts' ps) : SEMF (c ++ [43]) ts (ts' ++ [(30, 0, 0, ps)]) ts'.length := by
  obtain ⟨hp, new, e, w, f⟩ := h
  refine ⟨⟨by omega, by simp⟩, new ++ [(30, 0, 0, ps)], by rw [e, List.append_assoc], ?_, ?_⟩
  · rw [wc9_app, wt9_app, w]; simp [wc9, wyc, wt9, wyt]
  · intro v ch K S hv
    obtain ⟨F, nv, ch', K', h, p, a1, a2, a3, a4, a5⟩ := f v ch K S hv
    refine ⟨F, nv ++ [F], ch', K', h || (p || big9 F), by simp [a1], ?_, ?_, ?_, a5⟩
    · intro g
      rw [List.foldl_append, a2]
      simp only [List.foldl_cons, List.foldl_nil, rv1]
      rw [if_neg (by decide), if_pos trivial, a4, List.append_assoc]; simp [Bool.or_assoc]
    · intro g
      rw [List.foldl_append, a3]
      simp only [List.foldl_cons, List.foldl_nil, ev1_43]
      congr 3
      cases g <;> cases h <;> cases p <;> cases big9 F <;> rfl
    · rw [← List.append_assoc]
      exact at9_last (by rw [Int.toNat_natCast, e, List.length_append, List.length_append, a1, hv])
/-- brackets alone -/
theorem semf_brk {c : List Int} {ts ts' : List TeR} {r : Int} (h : SEMF c ts ts' r) : SEMF c ts (ts' ++ [(32, r, 0, [])]) ts'.length := by
  obtain ⟨hr, new, e, w, f⟩ := h
  refine ⟨⟨by omega, by simp⟩, new ++ [(32, r, 0, [])], by rw [e, List.append_assoc], ?_, ?_⟩
  · rw [wt9_app, w]; simp [wt9, wyt]
  · intro v ch K S hv
    obtain ⟨F, nv, ch', K', h, a1, a2, a3, a4, a5⟩ := f v ch K S hv
    refine ⟨F, nv ++ [F], ch', K', h, by simp [a1], ?_, a3, ?_, a5⟩
    · intro g
      rw [List.foldl_append, a2]
      simp only [List.foldl_cons, List.foldl_nil, rv1]
      rw [if_neg (by decide), if_neg (by decide), if_pos trivial, a4, List.append_assoc]
    · rw [← List.append_assoc]
      exact at9_last (by rw [Int.toNat_natCast, e, List.length_append, List.length_append, a1, hv])
theorem wrd9_bel {k n : Int} {r : Nat} {a b : Fo9} (ha : 1 ≤ bel a) (hb : 1 ≤ bel b) (hn : k = 11 → 1 ≤ n) : 1 ≤ bel (wrd9 k n r a b).1 := by
  unfold wrd9
  split
  · show 1 ≤ bel (if _ then _ else _)
    split
    · exact ha
    · exact ha
  · split
    · show 1 ≤ bel (if _ then _ else _)
      split
      · exact ha
      · exact hb
    · show 1 ≤ bel (if _ then _ else _)
      split
      · rename_i e
        have h3 : (1 : Int) * 1 ≤ bel a * n := Int.mul_le_mul ha (hn e) (by omega) (by omega)
        show 1 ≤ bel a * n
        omega
      · show (1 : Int) ≤ 1
        decide
/-- a word of one term (and a number) -/
theorem semf_wd1 {c : List Int} {ts ts' : List TeR} {r k n op : Int} (h : SEMF c ts ts' r) (hk : (k = 8 ∧ n = 0) ∨ ((k = 11 ∨ k = 12) ∧ 2 ≤ n ∧ n ≤ 12)) (hop : op = 20 + k + 64 * n) : SEMF (c ++ [op]) ts (ts' ++ [(k, r, n, [])]) ts'.length := by
  obtain ⟨hr, new, e, w, f⟩ := h
  have o1 : op % 64 = 20 + k := by omega
  have o2 : op / 64 = n := by omega
  refine ⟨⟨by omega, by simp⟩, new ++ [(k, r, n, [])], by rw [e, List.append_assoc], ?_, ?_⟩
  · rw [wc9_app, wt9_app, w]
    congr 1
    simp only [wc9, wt9, List.flatMap_cons, List.flatMap_nil, List.append_nil, wyc, wyt, o1, o2]
    rcases hk with g | g
    · rw [if_pos (by omega), if_pos (by omega)]
    · rw [if_neg (by omega), if_pos (by omega), if_neg (by omega), if_pos (by omega)]
  · intro v ch K S hv
    obtain ⟨F, nv, ch', K', h, a1, a2, a3, a4, a5⟩ := f v ch K S hv
    refine ⟨(wrd9 k n (ch'.headD 0) F zF9).1, nv ++ [(wrd9 k n (ch'.headD 0) F zF9).1], ch'.tail, K' ++ [(wrd9 k n (ch'.headD 0) F zF9).2.1], h || (wrd9 k n (ch'.headD 0) F zF9).2.2, by simp [a1], ?_, ?_, ?_, wrd9_bel a5 (by decide) (by omega)⟩
    · intro g
      rw [List.foldl_append, a2]
      simp only [List.foldl_cons, List.foldl_nil, rv1]
      rw [if_neg (by omega), if_neg (by omega), if_neg (by omega), if_neg (by omega), a4, List.append_assoc, Bool.or_assoc]
    · intro g
      rw [List.foldl_append, a3]
      simp only [List.foldl_cons, List.foldl_nil, ev1, o1, o2, top9, List.headD_cons, List.tail_cons]
      rw [if_neg (by omega), if_neg (by omega), if_neg (by omega), if_neg (by omega), if_neg (by omega), if_pos (by omega), show 20 + k - 20 = k from by omega, Bool.or_assoc]
    · rw [← List.append_assoc]
      exact at9_last (by rw [Int.toNat_natCast, e, List.length_append, List.length_append, a1, hv])
/-- a word of two terms -/
theorem semf_wd2 {c d : List Int} {ts t1 ts' : List TeR} {r s k op : Int} (h1 : SEMF c ts t1 r) (h2 : SEMF d t1 ts' s) (hk : k = 9 ∨ k = 10) (hop : op = 20 + k) : SEMF (c ++ d ++ [op]) ts (ts' ++ [(k, r, s, [])]) ts'.length := by
  obtain ⟨hr, n1, e1, w1, f1⟩ := h1
  obtain ⟨hs, n2, e2, w2, f2⟩ := h2
  have o1 : op % 64 = 20 + k := by omega
  have o2 : op / 64 = 0 := by omega
  refine ⟨⟨by omega, by simp⟩, n1 ++ n2 ++ [(k, r, s, [])], by rw [e2, e1]; simp, ?_, ?_⟩
  · rw [wc9_app, wc9_app, wt9_app, wt9_app, w1, w2]
    congr 1
    simp only [wc9, wt9, List.flatMap_cons, List.flatMap_nil, List.append_nil, wyc, wyt, o1, o2]
    rw [if_pos (by omega), if_pos (by omega)]
  · intro v ch K S hv
    obtain ⟨F, nv, ch', K', h, a1, a2, a3, a4, a5⟩ := f1 v ch K S hv
    obtain ⟨E, nw, ch2, K2, h2, b1, b2, b3, b4, b5⟩ := f2 (v ++ nv) ch' K' (F :: S) (by rw [e1, List.length_append, List.length_append]; omega)
    have q : at9 (v ++ nv ++ nw) r = F := by
      rw [at9_app (v := v ++ nv) (by rw [List.length_append, a1, hv, ← List.length_append, ← e1]; exact hr.2), a4]
    refine ⟨(wrd9 k 0 (ch2.headD 0) F E).1, nv ++ nw ++ [(wrd9 k 0 (ch2.headD 0) F E).1], ch2.tail, K2 ++ [(wrd9 k 0 (ch2.headD 0) F E).2.1], h || h2 || (wrd9 k 0 (ch2.headD 0) F E).2.2, by simp [a1, b1], ?_, ?_, ?_, wrd9_bel a5 b5 (by omega)⟩
    · intro g
      rw [List.foldl_append, List.foldl_append, a2, b2]
      simp only [List.foldl_cons, List.foldl_nil, rv1]
      rw [if_neg (by omega), if_neg (by omega), if_neg (by omega), if_pos (by omega), b4, q]
      simp [Bool.or_assoc]
    · intro g
      rw [List.foldl_append, List.foldl_append, a3, b3]
      simp only [List.foldl_cons, List.foldl_nil, ev1, o1, o2, top9, List.headD_cons, List.tail_cons]
      rw [if_neg (by omega), if_neg (by omega), if_neg (by omega), if_neg (by omega), if_neg (by omega), if_neg (by omega), if_pos (by omega), show 20 + k - 20 = k from by omega]
      simp [Bool.or_assoc]
    · rw [← List.append_assoc, ← List.append_assoc]
      exact at9_last (by rw [Int.toNat_natCast, e2, e1]; simp only [List.length_append]; omega)
