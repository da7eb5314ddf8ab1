-- ===== the grammar =====
mutual
/-- what is a factor, a sum, a part of one -/
inductive TF where
  | var (v : Nat)
  | br (t : TS)
  | abs (t : TS)
  | two (mx : Bool) (a b : TS)
  | dm (md : Bool) (a : TS) (n : Int)
inductive TS where
  | one (p : TP)
  | add (s : TS) (p : TP)
inductive TP where
  | num (neg : Bool) (n : Int)
  | fac (neg : Bool) (times : Option Int) (f : TF)
end
inductive FF where
  | tru | fls
  | nam (c : Nat)
  | cmp (op : Int) (a b : TS)
  | dvd (n : Int) (a : TS)
  | neg (f : FF)
  | con (f g : FF)
  | dis (f g : FF)
  | jn (op : Int) (f g : FF)
/-- the class's steps -/
def cN (neg : Bool) : List Int := if neg then [12] else []
def cT : Option Int → List Int
  | none => []
  | some n => [13 + 64 * n]
mutual
def cF : TF → List Int
  | .var v => [41 + 64 * v]
  | .br t => cU t ++ [43]
  | .abs t => cU t ++ [43] ++ [28]
  | .two mx a b => cU a ++ [43] ++ (cU b ++ [43]) ++ [if mx then 30 else 29]
  | .dm md a n => cU a ++ [43] ++ [(if md then 32 else 31) + 64 * n]
def cU : TS → List Int
  | .one p => cP p
  | .add s p => cU s ++ cP p ++ [11]
def cP : TP → List Int
  | .num neg n => [2 + 64 * n] ++ cN neg ++ [43]
  | .fac neg times f => cF f ++ cT times ++ cN neg ++ [43]
end
def cS (t : TS) : List Int := cU t ++ [43]
def cL : FF → List Int
  | .tru => [26]
  | .fls => [27]
  | .nam c => [42 + 64 * c]
  | .cmp op a b => cS a ++ cS b ++ [3 + op]
  | .dvd n a => cS a ++ [33 + 64 * n]
  | .neg f => cL f ++ [25]
  | .con f g => cL f ++ cL g ++ [23]
  | .dis f g => cL f ++ cL g ++ [24]
  | .jn op f g => cL f ++ cL g ++ [3 + op]
/-- tokens and names: kinds, numbers, names; which variable, which claim a name is (below 0: none) -/
structure TkE where
  K : Nat → Int
  V : Nat → Int
  N : Nat → Int
  vr : Int → Int
  cl : Int → Int
abbrev P9 (α : Type) : Type := Nat → Nat → Option (α × Nat × Nat)
def TkE.sg (T : TkE) (i : Nat) (s : Int) : Prop := T.K i = 5 ∧ T.V i = s
def TkE.wd (T : TkE) (i : Nat) (s : Int) : Prop := T.K i = 4 ∧ T.V i = s
instance (T : TkE) (i : Nat) (s : Int) : Decidable (T.sg i s) := inferInstanceAs (Decidable (_ ∧ _))
instance (T : TkE) (i : Nat) (s : Int) : Decidable (T.wd i s) := inferInstanceAs (Decidable (_ ∧ _))
/-- what stands in [ ] behind a word, or alone (w = 3) -/
def brk9 (T : TkE) (can : Bool) (inner : P9 TS) (w : Int) : P9 TF := fun i t =>
  if T.sg i 3 ∧ t < 120 ∧ can = true then
    match inner (i + 1) (t + 1) with
    | none => none
    | some (a, j, u) =>
      if w = 9 ∨ w = 10 then
        if T.sg j 5 ∧ u < 120 then
          match inner (j + 1) (u + 1) with
          | none => none
          | some (c, k, x) => if T.sg k 4 ∧ x < 120 then some (.two (decide (w = 10)) a c, k + 1, x + 1) else none
        else none
      else if w = 11 ∨ w = 12 then
        if T.sg j 5 ∧ T.K (j + 1) = 2 ∧ 2 ≤ T.V (j + 1) ∧ T.V (j + 1) ≤ 12 ∧ T.sg (j + 2) 4 ∧ u + 2 < 120 then some (.dm (decide (w = 12)) a (T.V (j + 1)), j + 3, u + 3) else none
      else if T.sg j 4 ∧ u < 120 then some (if w = 8 then .abs a else .br a, j + 1, u + 1) else none
  else none
def fac9 (T : TkE) (can : Bool) (inner : P9 TS) : P9 TF := fun i t =>
  if T.K i = 3 then (if 0 ≤ T.vr (T.N i) ∧ t < 120 then some (.var (T.vr (T.N i)).toNat, i + 1, t + 1) else none)
  else if T.sg i 3 then brk9 T can inner 3 i t
  else if T.K i = 4 ∧ 8 ≤ T.V i ∧ T.V i ≤ 12 then (if t < 120 then brk9 T can inner (T.V i) (i + 1) (t + 1) else none)
  else none
def par9 (T : TkE) (can : Bool) (inner : P9 TS) (neg : Bool) : P9 TP := fun i t =>
  if T.K i = 2 then
    if t < 120 then
      if T.sg (i + 1) 10 then
        if t + 1 < 120 then
          match fac9 T can inner (i + 2) (t + 2) with
          | none => none
          | some (f, j, u) => some (.fac neg (some (T.V i)) f, j, u)
        else none
      else some (.num neg (T.V i), i + 1, t + 1)
    else none
  else
    match fac9 T can inner i t with
    | none => none
    | some (f, j, u) => some (.fac neg none f, j, u)
def sum9 (T : TkE) (can : Bool) (inner : P9 TS) (s : TS) (i t : Nat) : Option (TS × Nat × Nat) :=
  if T.sg i 8 ∨ T.sg i 9 then
    if t < 120 then
      match par9 T can inner (decide (T.sg i 9)) (i + 1) (t + 1) with
      | none => none
      | some (p, j, u) => if t < u ∧ u ≤ 120 then sum9 T can inner (.add s p) j u else none
    else none
  else some (s, i, t)
termination_by 121 - t
def trm9 (T : TkE) (can : Bool) (inner : P9 TS) : P9 TS := fun i t =>
  if T.sg i 9 then
    if t < 120 then
      match par9 T can inner true (i + 1) (t + 1) with
      | none => none
      | some (p, j, u) => sum9 T can inner (.one p) j u
    else none
  else
    match par9 T can inner false i t with
    | none => none
    | some (p, j, u) => sum9 T can inner (.one p) j u
/-- terms with so many brackets that may yet be opened -/
def trmD (T : TkE) : Nat → P9 TS
  | 0 => trm9 T false (fun _ _ => none)
  | d + 1 => trm9 T true (trmD T d)
def isCmp (op : Int) : Prop := op = 7 ∨ (11 ≤ op ∧ op ≤ 15)
instance (op : Int) : Decidable (isCmp op) := inferInstanceAs (Decidable (_ ∨ _))
def one9 (T : TkE) (can : Bool) (inner : P9 FF) (whole : P9 FF) (term : P9 TS) : P9 FF := fun i t =>
  if T.wd i 5 then
    if t < 120 ∧ can = true then
      match inner (i + 1) (t + 1) with
      | none => none
      | some (f, j, u) => some (.neg f, j, u)
    else none
  else if T.sg i 1 then
    if t < 120 ∧ can = true then
      match whole (i + 1) (t + 1) with
      | none => none
      | some (f, j, u) => if T.sg j 2 ∧ u < 120 then some (f, j + 1, u + 1) else none
    else none
  else if T.wd i 6 then (if t < 120 then some (.tru, i + 1, t + 1) else none)
  else if T.wd i 7 then (if t < 120 then some (.fls, i + 1, t + 1) else none)
  else if T.K i = 3 ∧ 0 ≤ T.cl (T.N i) then (if t < 120 then some (.nam (T.cl (T.N i)).toNat, i + 1, t + 1) else none)
  else if T.K i = 2 ∧ T.wd (i + 1) 13 then
    if t + 1 < 120 ∧ 2 ≤ T.V i ∧ T.V i ≤ 12 then
      match term (i + 2) (t + 2) with
      | none => none
      | some (a, j, u) => some (.dvd (T.V i) a, j, u)
    else none
  else
    match term i t with
    | none => none
    | some (a, j, u) =>
      if T.K j = 5 ∧ isCmp (T.V j) ∧ u < 120 then
        match term (j + 1) (u + 1) with
        | none => none
        | some (c, k, x) => some (.cmp (T.V j) a c, k, x)
      else none
def row9 (T : TkE) (w : Int) (mk : FF → FF → FF) (part : P9 FF) (f : FF) (i t : Nat) : Option (FF × Nat × Nat) :=
  if T.wd i w then
    if t < 120 then
      match part (i + 1) (t + 1) with
      | none => none
      | some (g, j, u) => if t < u ∧ u ≤ 120 then row9 T w mk part (mk f g) j u else none
    else none
  else some (f, i, t)
termination_by 121 - t
def bth9 (T : TkE) (one : P9 FF) : P9 FF := fun i t =>
  match one i t with
  | none => none
  | some (f, j, u) => row9 T 3 .con one f j u
def sid9 (T : TkE) (one : P9 FF) : P9 FF := fun i t =>
  match bth9 T one i t with
  | none => none
  | some (f, j, u) => row9 T 4 .dis (bth9 T one) f j u
def frm9 (T : TkE) (one : P9 FF) : P9 FF := fun i t =>
  match sid9 T one i t with
  | none => none
  | some (f, j, u) =>
    if T.sg j 16 ∨ T.sg j 17 then
      if u < 120 then
        match sid9 T one (j + 1) (u + 1) with
        | none => none
        | some (g, k, x) => some (.jn (T.V j) f g, k, x)
      else none
    else some (f, j, u)
def oneD (T : TkE) : Nat → P9 FF
  | 0 => one9 T false (fun _ _ => none) (fun _ _ => none) (trmD T 0)
  | d + 1 => one9 T true (oneD T d) (frm9 T (oneD T d)) (trmD T (d + 1))
def frmD (T : TkE) (d : Nat) : P9 FF := frm9 T (oneD T d)
/-- a parser gets on, and takes no more than 120 tokens -/
def On9 {α : Type} (p : P9 α) : Prop := ∀ i t r j u, p i t = some (r, j, u) → t ≤ 120 → i < j ∧ t < u ∧ u ≤ 120 ∧ j - i = u - t
theorem brk9_on {T : TkE} {can : Bool} {inner : P9 TS} (h : On9 inner) (w : Int) : On9 (brk9 T can inner w) := fun i t r j u e ht => by
  unfold brk9 at e
  split at e
  · rename_i c
    split at e
    · exact absurd e (by simp)
    · rename_i a j1 u1 e1
      have a1 := h _ _ _ _ _ e1 (by omega)
      split at e
      · split at e
        · split at e
          · exact absurd e (by simp)
          · rename_i b j2 u2 e2
            have a2 := h _ _ _ _ _ e2 (by omega)
            split at e
            · simp only [Option.some.injEq, Prod.mk.injEq] at e; omega
            · exact absurd e (by simp)
        · exact absurd e (by simp)
      · split at e
        · split at e
          · simp only [Option.some.injEq, Prod.mk.injEq] at e; omega
          · exact absurd e (by simp)
        · split at e
          · simp only [Option.some.injEq, Prod.mk.injEq] at e; omega
          · exact absurd e (by simp)
  · exact absurd e (by simp)
theorem fac9_on {T : TkE} {can : Bool} {inner : P9 TS} (h : On9 inner) : On9 (fac9 T can inner) := fun i t r j u e ht => by
  unfold fac9 at e
  split at e
  · split at e
    · simp only [Option.some.injEq, Prod.mk.injEq] at e; omega
    · exact absurd e (by simp)
  · split at e
    · exact brk9_on h 3 _ _ _ _ _ e ht
    · split at e
      · split at e
        · have := brk9_on h _ _ _ _ _ _ e (by omega); omega
        · exact absurd e (by simp)
      · exact absurd e (by simp)
theorem par9_on {T : TkE} {can : Bool} {inner : P9 TS} (h : On9 inner) (neg : Bool) : On9 (par9 T can inner neg) := fun i t r j u e ht => by
  unfold par9 at e
  split at e
  · split at e
    · split at e
      · split at e
        · split at e
          · exact absurd e (by simp)
          · rename_i f j1 u1 e1
            have a1 := fac9_on h _ _ _ _ _ e1 (by omega)
            simp only [Option.some.injEq, Prod.mk.injEq] at e; omega
        · exact absurd e (by simp)
      · simp only [Option.some.injEq, Prod.mk.injEq] at e; omega
    · exact absurd e (by simp)
  · split at e
    · exact absurd e (by simp)
    · rename_i f j1 u1 e1
      have a1 := fac9_on h _ _ _ _ _ e1 (by omega)
      simp only [Option.some.injEq, Prod.mk.injEq] at e; omega
theorem sum9_on {T : TkE} {can : Bool} {inner : P9 TS} (h : On9 inner) : ∀ m s i t r j u, 121 - t = m → sum9 T can inner s i t = some (r, j, u) → t ≤ 120 → i ≤ j ∧ t ≤ u ∧ u ≤ 120 ∧ j - i = u - t := by
  intro m
  induction m using Nat.strongRecOn with
  | _ m ih =>
    intro s i t r j u hm e ht
    rw [sum9] at e
    split at e
    · split at e
      · split at e
        · exact absurd e (by simp)
        · rename_i p j1 u1 e1
          have a1 := par9_on h _ _ _ _ _ _ e1 (by omega)
          split at e
          · have := ih (121 - u1) (by omega) _ _ _ _ _ _ rfl e (by omega); omega
          · exact absurd e (by simp)
      · exact absurd e (by simp)
    · simp only [Option.some.injEq, Prod.mk.injEq] at e; omega
theorem trm9_on {T : TkE} {can : Bool} {inner : P9 TS} (h : On9 inner) : On9 (trm9 T can inner) := fun i t r j u e ht => by
  unfold trm9 at e
  split at e
  · split at e
    · split at e
      · exact absurd e (by simp)
      · rename_i p j1 u1 e1
        have a1 := par9_on h _ _ _ _ _ _ e1 (by omega)
        have := sum9_on h _ _ _ _ _ _ _ rfl e (by omega); omega
    · exact absurd e (by simp)
  · split at e
    · exact absurd e (by simp)
    · rename_i p j1 u1 e1
      have a1 := par9_on h _ _ _ _ _ _ e1 (by omega)
      have := sum9_on h _ _ _ _ _ _ _ rfl e (by omega); omega
theorem on9_none {α : Type} : On9 (fun _ _ => (none : Option (α × Nat × Nat))) := fun _ _ _ _ _ e _ => absurd e (by simp)
theorem trmD_on (T : TkE) : ∀ d, On9 (trmD T d)
  | 0 => trm9_on on9_none
  | d + 1 => trm9_on (trmD_on T d)
theorem row9_on {T : TkE} {w : Int} {mk : FF → FF → FF} {part : P9 FF} (h : On9 part) : ∀ m s i t r j u, 121 - t = m → row9 T w mk part s i t = some (r, j, u) → t ≤ 120 → i ≤ j ∧ t ≤ u ∧ u ≤ 120 ∧ j - i = u - t := by
  intro m
  induction m using Nat.strongRecOn with
  | _ m ih =>
    intro s i t r j u hm e ht
    rw [row9] at e
    split at e
    · split at e
      · split at e
        · exact absurd e (by simp)
        · rename_i p j1 u1 e1
          have a1 := h _ _ _ _ _ e1 (by omega)
          split at e
          · have := ih (121 - u1) (by omega) _ _ _ _ _ _ rfl e (by omega); omega
          · exact absurd e (by simp)
      · exact absurd e (by simp)
    · simp only [Option.some.injEq, Prod.mk.injEq] at e; omega
theorem bth9_on {T : TkE} {one : P9 FF} (h : On9 one) : On9 (bth9 T one) := fun i t r j u e ht => by
  unfold bth9 at e
  split at e
  · exact absurd e (by simp)
  · rename_i f j1 u1 e1
    have a1 := h _ _ _ _ _ e1 ht
    have := row9_on h _ _ _ _ _ _ _ rfl e (by omega); omega
theorem sid9_on {T : TkE} {one : P9 FF} (h : On9 one) : On9 (sid9 T one) := fun i t r j u e ht => by
  unfold sid9 at e
  split at e
  · exact absurd e (by simp)
  · rename_i f j1 u1 e1
    have a1 := bth9_on h _ _ _ _ _ e1 ht
    have := row9_on (bth9_on h) _ _ _ _ _ _ _ rfl e (by omega); omega
theorem frm9_on {T : TkE} {one : P9 FF} (h : On9 one) : On9 (frm9 T one) := fun i t r j u e ht => by
  unfold frm9 at e
  split at e
  · exact absurd e (by simp)
  · rename_i f j1 u1 e1
    have a1 := sid9_on h _ _ _ _ _ e1 ht
    split at e
    · split at e
      · split at e
        · exact absurd e (by simp)
        · rename_i g j2 u2 e2
          have a2 := sid9_on h _ _ _ _ _ e2 (by omega)
          simp only [Option.some.injEq, Prod.mk.injEq] at e; omega
      · exact absurd e (by simp)
    · simp only [Option.some.injEq, Prod.mk.injEq] at e; omega
theorem one9_on {T : TkE} {can : Bool} {inner whole : P9 FF} {term : P9 TS} (h1 : On9 inner) (h2 : On9 whole) (h3 : On9 term) : On9 (one9 T can inner whole term) := fun i t r j u e ht => by
  unfold one9 at e
  split at e
  · split at e
    · split at e
      · exact absurd e (by simp)
      · rename_i f j1 u1 e1
        have a1 := h1 _ _ _ _ _ e1 (by omega)
        simp only [Option.some.injEq, Prod.mk.injEq] at e; omega
    · exact absurd e (by simp)
  · split at e
    · split at e
      · split at e
        · exact absurd e (by simp)
        · rename_i f j1 u1 e1
          have a1 := h2 _ _ _ _ _ e1 (by omega)
          split at e
          · simp only [Option.some.injEq, Prod.mk.injEq] at e; omega
          · exact absurd e (by simp)
      · exact absurd e (by simp)
    · split at e
      · split at e
        · simp only [Option.some.injEq, Prod.mk.injEq] at e; omega
        · exact absurd e (by simp)
      · split at e
        · split at e
          · simp only [Option.some.injEq, Prod.mk.injEq] at e; omega
          · exact absurd e (by simp)
        · split at e
          · split at e
            · simp only [Option.some.injEq, Prod.mk.injEq] at e; omega
            · exact absurd e (by simp)
          · split at e
            · split at e
              · split at e
                · exact absurd e (by simp)
                · rename_i a j1 u1 e1
                  have a1 := h3 _ _ _ _ _ e1 (by omega)
                  simp only [Option.some.injEq, Prod.mk.injEq] at e; omega
              · exact absurd e (by simp)
            · split at e
              · exact absurd e (by simp)
              · rename_i a j1 u1 e1
                have a1 := h3 _ _ _ _ _ e1 (by omega)
                split at e
                · split at e
                  · exact absurd e (by simp)
                  · rename_i c j2 u2 e2
                    have a2 := h3 _ _ _ _ _ e2 (by omega)
                    simp only [Option.some.injEq, Prod.mk.injEq] at e; omega
                · exact absurd e (by simp)
theorem oneD_on (T : TkE) : ∀ d, On9 (oneD T d)
  | 0 => one9_on on9_none on9_none (trmD_on T 0)
  | d + 1 => one9_on (oneD_on T d) (frm9_on (oneD_on T d)) (trmD_on T (d + 1))
theorem frmD_on (T : TkE) (d : Nat) : On9 (frmD T d) := frm9_on (oneD_on T d)
/-- a parser's steps are no more than four for a token, less one -/
def Lt9 {α : Type} (c : α → List Int) (p : P9 α) : Prop := ∀ i t r j u, p i t = some (r, j, u) → t ≤ 120 → (c r).length + 1 ≤ 4 * (u - t)
theorem brk9_lt {T : TkE} {can : Bool} {inner : P9 TS} (ho : On9 inner) (h : Lt9 cS inner) (w : Int) : ∀ i t r j u, brk9 T can inner w i t = some (r, j, u) → t ≤ 120 → (cF r).length + 3 ≤ 4 * (u - t) := fun i t r j u e ht => by
  unfold brk9 at e
  split at e
  · rename_i c
    split at e
    · exact absurd e (by simp)
    · rename_i a j1 u1 e1
      have a1 := ho _ _ _ _ _ e1 (by omega)
      have b1 := h _ _ _ _ _ e1 (by omega)
      simp only [cS, List.length_append, List.length_cons, List.length_nil] at b1
      split at e
      · split at e
        · split at e
          · exact absurd e (by simp)
          · rename_i b j2 u2 e2
            have a2 := ho _ _ _ _ _ e2 (by omega)
            have b2 := h _ _ _ _ _ e2 (by omega)
            simp only [cS, List.length_append, List.length_cons, List.length_nil] at b2
            split at e
            · simp only [Option.some.injEq, Prod.mk.injEq] at e
              obtain ⟨rfl, rfl, rfl⟩ := e
              simp only [cF, List.length_append, List.length_cons, List.length_nil]; omega
            · exact absurd e (by simp)
        · exact absurd e (by simp)
      · split at e
        · split at e
          · simp only [Option.some.injEq, Prod.mk.injEq] at e
            obtain ⟨rfl, rfl, rfl⟩ := e
            simp only [cF, List.length_append, List.length_cons, List.length_nil]; omega
          · exact absurd e (by simp)
        · split at e
          · simp only [Option.some.injEq, Prod.mk.injEq] at e
            obtain ⟨rfl, rfl, rfl⟩ := e
            split <;> simp only [cF, List.length_append, List.length_cons, List.length_nil] <;> omega
          · exact absurd e (by simp)
  · exact absurd e (by simp)
theorem fac9_lt {T : TkE} {can : Bool} {inner : P9 TS} (ho : On9 inner) (h : Lt9 cS inner) : ∀ i t r j u, fac9 T can inner i t = some (r, j, u) → t ≤ 120 → (cF r).length + 3 ≤ 4 * (u - t) := fun i t r j u e ht => by
  unfold fac9 at e
  split at e
  · split at e
    · simp only [Option.some.injEq, Prod.mk.injEq] at e
      obtain ⟨rfl, rfl, rfl⟩ := e
      simp only [cF, List.length_cons, List.length_nil]; omega
    · exact absurd e (by simp)
  · split at e
    · exact brk9_lt ho h 3 _ _ _ _ _ e ht
    · split at e
      · split at e
        · have := brk9_lt ho h _ _ _ _ _ _ e (by omega); omega
        · exact absurd e (by simp)
      · exact absurd e (by simp)
theorem par9_lt {T : TkE} {can : Bool} {inner : P9 TS} (ho : On9 inner) (h : Lt9 cS inner) (neg : Bool) : ∀ i t r j u, par9 T can inner neg i t = some (r, j, u) → t ≤ 120 → (cP r).length + (if neg = true then 1 else 2) ≤ 4 * (u - t) := fun i t r j u e ht => by
  unfold par9 at e
  split at e
  · split at e
    · split at e
      · split at e
        · split at e
          · exact absurd e (by simp)
          · rename_i f j1 u1 e1
            have a1 := fac9_on ho _ _ _ _ _ e1 (by omega)
            have b1 := fac9_lt ho h _ _ _ _ _ e1 (by omega)
            simp only [Option.some.injEq, Prod.mk.injEq] at e
            obtain ⟨rfl, rfl, rfl⟩ := e
            cases neg <;> simp only [cP, cT, cN, List.length_append, List.length_cons, List.length_nil, reduceIte, Bool.false_eq_true] <;> omega
        · exact absurd e (by simp)
      · simp only [Option.some.injEq, Prod.mk.injEq] at e
        obtain ⟨rfl, rfl, rfl⟩ := e
        cases neg <;> simp only [cP, cT, cN, List.length_append, List.length_cons, List.length_nil, reduceIte, Bool.false_eq_true] <;> omega
    · exact absurd e (by simp)
  · split at e
    · exact absurd e (by simp)
    · rename_i f j1 u1 e1
      have a1 := fac9_on ho _ _ _ _ _ e1 (by omega)
      have b1 := fac9_lt ho h _ _ _ _ _ e1 (by omega)
      simp only [Option.some.injEq, Prod.mk.injEq] at e
      obtain ⟨rfl, rfl, rfl⟩ := e
      cases neg <;> simp only [cP, cT, cN, List.length_append, List.length_cons, List.length_nil, reduceIte, Bool.false_eq_true] <;> omega
theorem sum9_lt {T : TkE} {can : Bool} {inner : P9 TS} (ho : On9 inner) (h : Lt9 cS inner) : ∀ m s i t r j u, 121 - t = m → sum9 T can inner s i t = some (r, j, u) → t ≤ 120 → ∀ t0, t0 ≤ t → (cU s).length + 2 ≤ 4 * (t - t0) → (cU r).length + 2 ≤ 4 * (u - t0) := by
  intro m
  induction m using Nat.strongRecOn with
  | _ m ih =>
    intro s i t r j u hm e ht t0 h0 hs
    rw [sum9] at e
    split at e
    · split at e
      · split at e
        · exact absurd e (by simp)
        · rename_i p j1 u1 e1
          have a1 := par9_on ho _ _ _ _ _ _ e1 (by omega)
          have b1 := par9_lt ho h _ _ _ _ _ _ e1 (by omega)
          split at e
          · refine ih (121 - u1) (by omega) _ _ _ _ _ _ rfl e (by omega) t0 (by omega) ?_
            simp only [cU, List.length_append, List.length_cons, List.length_nil]
            split at b1 <;> omega
          · exact absurd e (by simp)
      · exact absurd e (by simp)
    · simp only [Option.some.injEq, Prod.mk.injEq] at e
      obtain ⟨rfl, rfl, rfl⟩ := e
      exact hs
theorem trm9_lt {T : TkE} {can : Bool} {inner : P9 TS} (ho : On9 inner) (h : Lt9 cS inner) : Lt9 cS (trm9 T can inner) := fun i t r j u e ht => by
  have key : (cU r).length + 2 ≤ 4 * (u - t) := by
    unfold trm9 at e
    split at e
    · split at e
      · split at e
        · exact absurd e (by simp)
        · rename_i p j1 u1 e1
          have a1 := par9_on ho _ _ _ _ _ _ e1 (by omega)
          have b1 := par9_lt ho h _ _ _ _ _ _ e1 (by omega)
          refine sum9_lt ho h _ _ _ _ _ _ _ rfl e (by omega) t (by omega) ?_
          simp only [cU]
          split at b1 <;> omega
      · exact absurd e (by simp)
    · split at e
      · exact absurd e (by simp)
      · rename_i p j1 u1 e1
        have a1 := par9_on ho _ _ _ _ _ _ e1 (by omega)
        have b1 := par9_lt ho h _ _ _ _ _ _ e1 (by omega)
        refine sum9_lt ho h _ _ _ _ _ _ _ rfl e (by omega) t (by omega) ?_
        simp only [cU]
        simp only [Bool.false_eq_true, reduceIte] at b1
        omega
  simp only [cS, List.length_append, List.length_cons, List.length_nil]
  omega
theorem lt9_none {α : Type} {c : α → List Int} : Lt9 c (fun _ _ => (none : Option (α × Nat × Nat))) := fun _ _ _ _ _ e _ => absurd e (by simp)
theorem trmD_lt (T : TkE) : ∀ d, Lt9 cS (trmD T d)
  | 0 => trm9_lt on9_none lt9_none
  | d + 1 => trm9_lt (trmD_on T d) (trmD_lt T d)
