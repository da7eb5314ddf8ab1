-- ===== the grammar: what is read comes out as the class's steps =====
abbrev TkE : Type := (Nat → Int) × (Nat → Int) × (Nat → Int) × (Int → Int) × (Int → Int)
/-- tokens and names: kinds, numbers, names; which variable, which claim a name is (below 0: none) -/
abbrev tK (T : TkE) (i : Nat) : Int := T.1 i
abbrev tV (T : TkE) (i : Nat) : Int := T.2.1 i
abbrev tN (T : TkE) (i : Nat) : Int := T.2.2.1 i
abbrev tvr (T : TkE) (x : Int) : Int := T.2.2.2.1 x
abbrev tcl (T : TkE) (x : Int) : Int := T.2.2.2.2 x
abbrev P9 : Type := Nat → Nat → Option (List Int × Nat × Nat)
abbrev tsg (T : TkE) (i : Nat) (s : Int) : Prop := tK T i = 5 ∧ tV T i = s
abbrev twd (T : TkE) (i : Nat) (s : Int) : Prop := tK T i = 4 ∧ tV T i = s
def cN (neg : Bool) : List Int := if neg = true then [12] else []
/-- what stands in [ ] behind a word, or alone (w = 3): behind its first term -/
def brkR (T : TkE) (inner : P9) (w : Int) (a : List Int) (j u : Nat) : Option (List Int × Nat × Nat) :=
  if w = 9 ∨ w = 10 then
    if tsg T j 5 ∧ u < 120 then
      match inner (j + 1) (u + 1) with
      | none => none
      | some (c, k, x) => if tsg T k 4 ∧ x < 120 then some (a ++ c ++ [if w = 10 then 30 else 29], k + 1, x + 1) else none
    else none
  else if w = 11 ∨ w = 12 then
    if tsg T j 5 ∧ tK T (j + 1) = 2 ∧ 2 ≤ tV T (j + 1) ∧ tV T (j + 1) ≤ 12 ∧ tsg T (j + 2) 4 ∧ u + 2 < 120 then some (a ++ [(if w = 12 then 32 else 31) + 64 * tV T (j + 1)], j + 3, u + 3) else none
  else if tsg T j 4 ∧ u < 120 then some (if w = 8 then a ++ [28] else a, j + 1, u + 1) else none
def brk9 (T : TkE) (can : Bool) (inner : P9) (w : Int) : P9 := fun i t =>
  if tsg T i 3 ∧ t < 120 ∧ can = true then
    match inner (i + 1) (t + 1) with
    | none => none
    | some (a, j, u) => brkR T inner w a j u
  else none
def fac9 (T : TkE) (can : Bool) (inner : P9) : P9 := fun i t =>
  if tK T i = 3 then (if 0 ≤ tvr T (tN T i) ∧ t < 120 then some ([41 + 64 * tvr T (tN T i)], i + 1, t + 1) else none)
  else if tsg T i 3 then brk9 T can inner 3 i t
  else if tK T i = 4 ∧ 8 ≤ tV T i ∧ tV T i ≤ 12 then (if t < 120 then brk9 T can inner (tV T i) (i + 1) (t + 1) else none)
  else none
def par9 (T : TkE) (can : Bool) (inner : P9) (neg : Bool) : P9 := fun i t =>
  if tK T i = 2 then
    if t < 120 then
      if tsg T (i + 1) 10 then
        if t + 1 < 120 then
          match fac9 T can inner (i + 2) (t + 2) with
          | none => none
          | some (f, j, u) => some (f ++ [13 + 64 * tV T i] ++ cN neg ++ [43], j, u)
        else none
      else some ([2 + 64 * tV T i] ++ cN neg ++ [43], i + 1, t + 1)
    else none
  else
    match fac9 T can inner i t with
    | none => none
    | some (f, j, u) => some (f ++ cN neg ++ [43], j, u)
def sum9 (T : TkE) (can : Bool) (inner : P9) (s : List Int) (i t : Nat) : Option (List Int × Nat × Nat) :=
  if tsg T i 8 ∨ tsg T i 9 then
    if t < 120 then
      match par9 T can inner (decide (tsg T i 9)) (i + 1) (t + 1) with
      | none => none
      | some (p, j, u) => if t < u ∧ u ≤ 120 then sum9 T can inner (s ++ p ++ [11]) j u else none
    else none
  else some (s ++ [43], i, t)
termination_by 121 - t
def trm9 (T : TkE) (can : Bool) (inner : P9) : P9 := fun i t =>
  if tsg T i 9 then
    if t < 120 then
      match par9 T can inner true (i + 1) (t + 1) with
      | none => none
      | some (p, j, u) => sum9 T can inner p j u
    else none
  else
    match par9 T can inner false i t with
    | none => none
    | some (p, j, u) => sum9 T can inner p j u
/-- terms with so many brackets that may yet be opened -/
def trmD (T : TkE) : Nat → P9
  | 0 => trm9 T false (fun _ _ => none)
  | d + 1 => trm9 T true (trmD T d)
abbrev isCmp (op : Int) : Prop := op = 7 ∨ (11 ≤ op ∧ op ≤ 15)
def one9 (T : TkE) (can : Bool) (inner : P9) (whole : P9) (term : P9) : P9 := fun i t =>
  if twd T i 5 then
    if t < 120 ∧ can = true then
      match inner (i + 1) (t + 1) with
      | none => none
      | some (f, j, u) => some (f ++ [25], j, u)
    else none
  else if tsg T i 1 then
    if t < 120 ∧ can = true then
      match whole (i + 1) (t + 1) with
      | none => none
      | some (f, j, u) => if tsg T j 2 ∧ u < 120 then some (f, j + 1, u + 1) else none
    else none
  else if twd T i 6 then (if t < 120 then some ([26], i + 1, t + 1) else none)
  else if twd T i 7 then (if t < 120 then some ([27], i + 1, t + 1) else none)
  else if tK T i = 3 ∧ 0 ≤ tcl T (tN T i) then (if t < 120 then some ([42 + 64 * tcl T (tN T i)], i + 1, t + 1) else none)
  else if tK T i = 2 ∧ twd T (i + 1) 13 then
    if t + 1 < 120 ∧ 2 ≤ tV T i ∧ tV T i ≤ 12 then
      match term (i + 2) (t + 2) with
      | none => none
      | some (a, j, u) => some (a ++ [33 + 64 * tV T i], j, u)
    else none
  else
    match term i t with
    | none => none
    | some (a, j, u) =>
      if tK T j = 5 ∧ isCmp (tV T j) ∧ u < 120 then
        match term (j + 1) (u + 1) with
        | none => none
        | some (c, k, x) => some (a ++ c ++ [3 + tV T j], k, x)
      else none
def row9 (T : TkE) (w : Int) (op : Int) (part : P9) (f : List Int) (i t : Nat) : Option (List Int × Nat × Nat) :=
  if twd T i w then
    if t < 120 then
      match part (i + 1) (t + 1) with
      | none => none
      | some (g, j, u) => if t < u ∧ u ≤ 120 then row9 T w op part (f ++ g ++ [op]) j u else none
    else none
  else some (f, i, t)
termination_by 121 - t
def bth9 (T : TkE) (one : P9) : P9 := fun i t =>
  match one i t with
  | none => none
  | some (f, j, u) => row9 T 3 23 one f j u
def sid9 (T : TkE) (one : P9) : P9 := fun i t =>
  match bth9 T one i t with
  | none => none
  | some (f, j, u) => row9 T 4 24 (bth9 T one) f j u
def frm9 (T : TkE) (one : P9) : P9 := fun i t =>
  match sid9 T one i t with
  | none => none
  | some (f, j, u) =>
    if tsg T j 16 ∨ tsg T j 17 then
      if u < 120 then
        match sid9 T one (j + 1) (u + 1) with
        | none => none
        | some (g, k, x) => some (f ++ g ++ [3 + tV T j], k, x)
      else none
    else some (f, j, u)
def oneD (T : TkE) : Nat → P9
  | 0 => one9 T false (fun _ _ => none) (fun _ _ => none) (trmD T 0)
  | d + 1 => one9 T true (oneD T d) (frm9 T (oneD T d)) (trmD T (d + 1))
def frmD (T : TkE) (d : Nat) : P9 := frm9 T (oneD T d)
/-- a parser gets on, and takes no more than 120 tokens -/
def On9 (p : P9) : Prop := ∀ i t r j u, p i t = some (r, j, u) → t ≤ 120 → i < j ∧ t < u ∧ u ≤ 120 ∧ j - i = u - t
theorem brk9_on {T : TkE} {can : Bool} {inner : P9} (h : On9 inner) (w : Int) : On9 (brk9 T can inner w) := fun i t r j u e ht => by
  unfold brk9 at e
  split at e
  · rename_i c
    split at e
    · exact absurd e (by simp)
    · rename_i a j1 u1 e1
      have a1 := h _ _ _ _ _ e1 (by omega)
      unfold brkR at e
      split at e
      · split at e
        · split at e
          · exact absurd e (by simp)
          · rename_i b j2 u2 e2
            have a2 := h _ _ _ _ _ e2 (by omega)
            split at e
            · simp only [Option.some.injEq, Prod.mk.injEq] at e; omega
            · exact absurd e (by simp)
        · exact absurd e (by simp)
      · split at e
        · split at e
          · simp only [Option.some.injEq, Prod.mk.injEq] at e; omega
          · exact absurd e (by simp)
        · split at e
          · simp only [Option.some.injEq, Prod.mk.injEq] at e; omega
          · exact absurd e (by simp)
  · exact absurd e (by simp)
theorem fac9_on {T : TkE} {can : Bool} {inner : P9} (h : On9 inner) : On9 (fac9 T can inner) := fun i t r j u e ht => by
  unfold fac9 at e
  split at e
  · split at e
    · simp only [Option.some.injEq, Prod.mk.injEq] at e; omega
    · exact absurd e (by simp)
  · split at e
    · exact brk9_on h 3 _ _ _ _ _ e ht
    · split at e
      · split at e
        · have := brk9_on h _ _ _ _ _ _ e (by omega); omega
        · exact absurd e (by simp)
      · exact absurd e (by simp)
theorem par9_on {T : TkE} {can : Bool} {inner : P9} (h : On9 inner) (neg : Bool) : On9 (par9 T can inner neg) := fun i t r j u e ht => by
  unfold par9 at e
  split at e
  · split at e
    · split at e
      · split at e
        · split at e
          · exact absurd e (by simp)
          · rename_i f j1 u1 e1
            have a1 := fac9_on h _ _ _ _ _ e1 (by omega)
            simp only [Option.some.injEq, Prod.mk.injEq] at e; omega
        · exact absurd e (by simp)
      · simp only [Option.some.injEq, Prod.mk.injEq] at e; omega
    · exact absurd e (by simp)
  · split at e
    · exact absurd e (by simp)
    · rename_i f j1 u1 e1
      have a1 := fac9_on h _ _ _ _ _ e1 (by omega)
      simp only [Option.some.injEq, Prod.mk.injEq] at e; omega
theorem sum9_on {T : TkE} {can : Bool} {inner : P9} (h : On9 inner) : ∀ m s i t r j u, 121 - t = m → sum9 T can inner s i t = some (r, j, u) → t ≤ 120 → i ≤ j ∧ t ≤ u ∧ u ≤ 120 ∧ j - i = u - t := by
  intro m
  induction m using Nat.strongRecOn with
  | _ m ih =>
    intro s i t r j u hm e ht
    rw [sum9] at e
    split at e
    · split at e
      · split at e
        · exact absurd e (by simp)
        · rename_i p j1 u1 e1
          have a1 := par9_on h _ _ _ _ _ _ e1 (by omega)
          split at e
          · have := ih (121 - u1) (by omega) _ _ _ _ _ _ rfl e (by omega); omega
          · exact absurd e (by simp)
      · exact absurd e (by simp)
    · simp only [Option.some.injEq, Prod.mk.injEq] at e; omega
theorem trm9_on {T : TkE} {can : Bool} {inner : P9} (h : On9 inner) : On9 (trm9 T can inner) := fun i t r j u e ht => by
  unfold trm9 at e
  split at e
  · split at e
    · split at e
      · exact absurd e (by simp)
      · rename_i p j1 u1 e1
        have a1 := par9_on h _ _ _ _ _ _ e1 (by omega)
        have := sum9_on h _ _ _ _ _ _ _ rfl e (by omega); omega
    · exact absurd e (by simp)
  · split at e
    · exact absurd e (by simp)
    · rename_i p j1 u1 e1
      have a1 := par9_on h _ _ _ _ _ _ e1 (by omega)
      have := sum9_on h _ _ _ _ _ _ _ rfl e (by omega); omega
theorem on9_none : On9 (fun _ _ => none) := fun _ _ _ _ _ e _ => absurd e (by simp)
theorem trmD_on (T : TkE) : ∀ d, On9 (trmD T d)
  | 0 => trm9_on on9_none
  | d + 1 => trm9_on (trmD_on T d)
theorem row9_on {T : TkE} {w : Int} {op : Int} {part : P9} (h : On9 part) : ∀ m s i t r j u, 121 - t = m → row9 T w op part s i t = some (r, j, u) → t ≤ 120 → i ≤ j ∧ t ≤ u ∧ u ≤ 120 ∧ j - i = u - t := by
  intro m
  induction m using Nat.strongRecOn with
  | _ m ih =>
    intro s i t r j u hm e ht
    rw [row9] at e
    split at e
    · split at e
      · split at e
        · exact absurd e (by simp)
        · rename_i p j1 u1 e1
          have a1 := h _ _ _ _ _ e1 (by omega)
          split at e
          · have := ih (121 - u1) (by omega) _ _ _ _ _ _ rfl e (by omega); omega
          · exact absurd e (by simp)
      · exact absurd e (by simp)
    · simp only [Option.some.injEq, Prod.mk.injEq] at e; omega
theorem bth9_on {T : TkE} {one : P9} (h : On9 one) : On9 (bth9 T one) := fun i t r j u e ht => by
  unfold bth9 at e
  split at e
  · exact absurd e (by simp)
  · rename_i f j1 u1 e1
    have a1 := h _ _ _ _ _ e1 ht
    have := row9_on h _ _ _ _ _ _ _ rfl e (by omega); omega
theorem sid9_on {T : TkE} {one : P9} (h : On9 one) : On9 (sid9 T one) := fun i t r j u e ht => by
  unfold sid9 at e
  split at e
  · exact absurd e (by simp)
  · rename_i f j1 u1 e1
    have a1 := bth9_on h _ _ _ _ _ e1 ht
    have := row9_on (bth9_on h) _ _ _ _ _ _ _ rfl e (by omega); omega
theorem frm9_on {T : TkE} {one : P9} (h : On9 one) : On9 (frm9 T one) := fun i t r j u e ht => by
  unfold frm9 at e
  split at e
  · exact absurd e (by simp)
  · rename_i f j1 u1 e1
    have a1 := sid9_on h _ _ _ _ _ e1 ht
    split at e
    · split at e
      · split at e
        · exact absurd e (by simp)
        · rename_i g j2 u2 e2
          have a2 := sid9_on h _ _ _ _ _ e2 (by omega)
          simp only [Option.some.injEq, Prod.mk.injEq] at e; omega
      · exact absurd e (by simp)
    · simp only [Option.some.injEq, Prod.mk.injEq] at e; omega
theorem one9_on {T : TkE} {can : Bool} {inner whole : P9} {term : P9} (h1 : On9 inner) (h2 : On9 whole) (h3 : On9 term) : On9 (one9 T can inner whole term) := fun i t r j u e ht => by
  unfold one9 at e
  split at e
  · split at e
    · split at e
      · exact absurd e (by simp)
      · rename_i f j1 u1 e1
        have a1 := h1 _ _ _ _ _ e1 (by omega)
        simp only [Option.some.injEq, Prod.mk.injEq] at e; omega
    · exact absurd e (by simp)
  · split at e
    · split at e
      · split at e
        · exact absurd e (by simp)
        · rename_i f j1 u1 e1
          have a1 := h2 _ _ _ _ _ e1 (by omega)
          split at e
          · simp only [Option.some.injEq, Prod.mk.injEq] at e; omega
          · exact absurd e (by simp)
      · exact absurd e (by simp)
    · split at e
      · split at e
        · simp only [Option.some.injEq, Prod.mk.injEq] at e; omega
        · exact absurd e (by simp)
      · split at e
        · split at e
          · simp only [Option.some.injEq, Prod.mk.injEq] at e; omega
          · exact absurd e (by simp)
        · split at e
          · split at e
            · simp only [Option.some.injEq, Prod.mk.injEq] at e; omega
            · exact absurd e (by simp)
          · split at e
            · split at e
              · split at e
                · exact absurd e (by simp)
                · rename_i a j1 u1 e1
                  have a1 := h3 _ _ _ _ _ e1 (by omega)
                  simp only [Option.some.injEq, Prod.mk.injEq] at e; omega
              · exact absurd e (by simp)
            · split at e
              · exact absurd e (by simp)
              · rename_i a j1 u1 e1
                have a1 := h3 _ _ _ _ _ e1 (by omega)
                split at e
                · split at e
                  · exact absurd e (by simp)
                  · rename_i c j2 u2 e2
                    have a2 := h3 _ _ _ _ _ e2 (by omega)
                    simp only [Option.some.injEq, Prod.mk.injEq] at e; omega
                · exact absurd e (by simp)
theorem oneD_on (T : TkE) : ∀ d, On9 (oneD T d)
  | 0 => one9_on on9_none on9_none (trmD_on T 0)
  | d + 1 => one9_on (oneD_on T d) (frm9_on (oneD_on T d)) (trmD_on T (d + 1))
theorem frmD_on (T : TkE) (d : Nat) : On9 (frmD T d) := frm9_on (oneD_on T d)
/-- a parser's steps are no more than four for a token, less one -/
def Lt9 (p : P9) : Prop := ∀ i t r j u, p i t = some (r, j, u) → t ≤ 120 → r.length + 1 ≤ 4 * (u - t)
theorem brk9_lt {T : TkE} {can : Bool} {inner : P9} (ho : On9 inner) (h : Lt9 inner) (w : Int) : ∀ i t r j u, brk9 T can inner w i t = some (r, j, u) → t ≤ 120 → r.length + 3 ≤ 4 * (u - t) := fun i t r j u e ht => by
  unfold brk9 at e
  split at e
  · rename_i c
    split at e
    · exact absurd e (by simp)
    · rename_i a j1 u1 e1
      have a1 := ho _ _ _ _ _ e1 (by omega)
      have b1 := h _ _ _ _ _ e1 (by omega)
      unfold brkR at e
      split at e
      · split at e
        · split at e
          · exact absurd e (by simp)
          · rename_i b j2 u2 e2
            have a2 := ho _ _ _ _ _ e2 (by omega)
            have b2 := h _ _ _ _ _ e2 (by omega)
            skip
            split at e
            · simp only [Option.some.injEq, Prod.mk.injEq] at e
              obtain ⟨rfl, rfl, rfl⟩ := e
              simp only [List.length_append, List.length_cons, List.length_nil]; omega
            · exact absurd e (by simp)
        · exact absurd e (by simp)
      · split at e
        · split at e
          · simp only [Option.some.injEq, Prod.mk.injEq] at e
            obtain ⟨rfl, rfl, rfl⟩ := e
            simp only [List.length_append, List.length_cons, List.length_nil]; omega
          · exact absurd e (by simp)
        · split at e
          · simp only [Option.some.injEq, Prod.mk.injEq] at e
            obtain ⟨rfl, rfl, rfl⟩ := e
            split <;> (try simp only [List.length_append, List.length_cons, List.length_nil]) <;> omega
          · exact absurd e (by simp)
  · exact absurd e (by simp)
theorem fac9_lt {T : TkE} {can : Bool} {inner : P9} (ho : On9 inner) (h : Lt9 inner) : ∀ i t r j u, fac9 T can inner i t = some (r, j, u) → t ≤ 120 → r.length + 3 ≤ 4 * (u - t) := fun i t r j u e ht => by
  unfold fac9 at e
  split at e
  · split at e
    · simp only [Option.some.injEq, Prod.mk.injEq] at e
      obtain ⟨rfl, rfl, rfl⟩ := e
      simp only [List.length_cons, List.length_nil]; omega
    · exact absurd e (by simp)
  · split at e
    · exact brk9_lt ho h 3 _ _ _ _ _ e ht
    · split at e
      · split at e
        · have := brk9_lt ho h _ _ _ _ _ _ e (by omega); omega
        · exact absurd e (by simp)
      · exact absurd e (by simp)
theorem par9_lt {T : TkE} {can : Bool} {inner : P9} (ho : On9 inner) (h : Lt9 inner) (neg : Bool) : ∀ i t r j u, par9 T can inner neg i t = some (r, j, u) → t ≤ 120 → r.length + (if neg = true then 1 else 2) ≤ 4 * (u - t) := fun i t r j u e ht => by
  unfold par9 at e
  split at e
  · split at e
    · split at e
      · split at e
        · split at e
          · exact absurd e (by simp)
          · rename_i f j1 u1 e1
            have a1 := fac9_on ho _ _ _ _ _ e1 (by omega)
            have b1 := fac9_lt ho h _ _ _ _ _ e1 (by omega)
            simp only [Option.some.injEq, Prod.mk.injEq] at e
            obtain ⟨rfl, rfl, rfl⟩ := e
            cases neg <;> simp only [cN, List.length_append, List.length_cons, List.length_nil, reduceIte, Bool.false_eq_true] <;> omega
        · exact absurd e (by simp)
      · simp only [Option.some.injEq, Prod.mk.injEq] at e
        obtain ⟨rfl, rfl, rfl⟩ := e
        cases neg <;> simp only [cN, List.length_append, List.length_cons, List.length_nil, reduceIte, Bool.false_eq_true] <;> omega
    · exact absurd e (by simp)
  · split at e
    · exact absurd e (by simp)
    · rename_i f j1 u1 e1
      have a1 := fac9_on ho _ _ _ _ _ e1 (by omega)
      have b1 := fac9_lt ho h _ _ _ _ _ e1 (by omega)
      simp only [Option.some.injEq, Prod.mk.injEq] at e
      obtain ⟨rfl, rfl, rfl⟩ := e
      cases neg <;> simp only [cN, List.length_append, List.length_cons, List.length_nil, reduceIte, Bool.false_eq_true] <;> omega
theorem sum9_lt {T : TkE} {can : Bool} {inner : P9} (ho : On9 inner) (h : Lt9 inner) : ∀ m s i t r j u, 121 - t = m → sum9 T can inner s i t = some (r, j, u) → t ≤ 120 → ∀ t0, t0 ≤ t → s.length + 2 ≤ 4 * (t - t0) → r.length + 1 ≤ 4 * (u - t0) := by
  intro m
  induction m using Nat.strongRecOn with
  | _ m ih =>
    intro s i t r j u hm e ht t0 h0 hs
    rw [sum9] at e
    split at e
    · split at e
      · split at e
        · exact absurd e (by simp)
        · rename_i p j1 u1 e1
          have a1 := par9_on ho _ _ _ _ _ _ e1 (by omega)
          have b1 := par9_lt ho h _ _ _ _ _ _ e1 (by omega)
          split at e
          · refine ih (121 - u1) (by omega) _ _ _ _ _ _ rfl e (by omega) t0 (by omega) ?_
            simp only [List.length_append, List.length_cons, List.length_nil]
            split at b1 <;> omega
          · exact absurd e (by simp)
      · exact absurd e (by simp)
    · simp only [Option.some.injEq, Prod.mk.injEq] at e
      obtain ⟨rfl, rfl, rfl⟩ := e
      simp only [List.length_append, List.length_cons, List.length_nil]; omega
theorem trm9_lt {T : TkE} {can : Bool} {inner : P9} (ho : On9 inner) (h : Lt9 inner) : Lt9 (trm9 T can inner) := fun i t r j u e ht => by
  unfold trm9 at e
  split at e
  · split at e
    · split at e
      · exact absurd e (by simp)
      · rename_i p j1 u1 e1
        have a1 := par9_on ho _ _ _ _ _ _ e1 (by omega)
        have b1 := par9_lt ho h _ _ _ _ _ _ e1 (by omega)
        simp only [reduceIte] at b1
        exact sum9_lt ho h _ _ _ _ _ _ _ rfl e (by omega) t (by omega) (by omega)
    · exact absurd e (by simp)
  · split at e
    · exact absurd e (by simp)
    · rename_i p j1 u1 e1
      have a1 := par9_on ho _ _ _ _ _ _ e1 (by omega)
      have b1 := par9_lt ho h _ _ _ _ _ _ e1 (by omega)
      simp only [Bool.false_eq_true, reduceIte] at b1
      exact sum9_lt ho h _ _ _ _ _ _ _ rfl e (by omega) t (by omega) (by omega)
theorem lt9_none : Lt9 (fun _ _ => none) := fun _ _ _ _ _ e _ => absurd e (by simp)
theorem trmD_lt (T : TkE) : ∀ d, Lt9 (trmD T d)
  | 0 => trm9_lt on9_none lt9_none
  | d + 1 => trm9_lt (trmD_on T d) (trmD_lt T d)
