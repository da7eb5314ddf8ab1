-- ===== the reference's reading machine, by itself =====
abbrev TFr : Type := Int × List PaR × Int × Int × Int
abbrev FFr : Type := Int × Nat × Nat × Nat
abbrev LeR : Type := Int × Int × Int × Int × Nat × Nat
abbrev LCu : Type := Int × Int × Int × Nat
/-- what is at hand: the state, the token, tokens taken, how many are open; formulas and terms that are open (the latest first); the rows of terms and leaves; the leaf at hand; leaves and named claims in their order -/
abbrev Cf9 : Type := Int × Nat × Nat × Int × List FFr × List TFr × List TeR × List LeR × LCu × List (Int × Int)
section
variable (T : TkE) (w : Bool)
def endO (i t : Nat) (o : Int) (fs : List FFr) (tf : List TFr) (ts : List TeR) (lv : List LeR) (cu : LCu) (it : List (Int × Int)) : Option Cf9 :=
  match fs with
  | [] => none
  | (j, k, a, b) :: fr => some (2, i, t, o - k, (j, 0, a, b + 1) :: fr, tf, ts, lv, cu, it)
def mOne (i t : Nat) (o : Int) (fs : List FFr) (tf : List TFr) (ts : List TeR) (lv : List LeR) (cu : LCu) (it : List (Int × Int)) : Option Cf9 :=
  if twd T i 5 then
    if t < 120 ∧ o < 12 then
      match fs with
      | [] => none
      | (j, k, a, b) :: fr => some (1, i + 1, t + 1, o + 1, (j, k + 1, a, b) :: fr, tf, ts, lv, cu, it)
    else none
  else if tsg T i 1 then
    if t < 120 ∧ o < 12 then some (1, i + 1, t + 1, o + 1, (0, 0, 0, 0) :: fs, tf, ts, lv, cu, it) else none
  else if twd T i 6 ∨ twd T i 7 then
    if t < 120 then endO (i + 1) (t + 1) o fs tf ts lv cu it else none
  else if tK T i = 3 then
    if 0 ≤ tvr T (tN T i) then some (3, i, t, o, fs, (21, [], 1, 1, -1) :: tf, ts, lv, (0, 0, -1, ts.length), it)
    else if 0 ≤ tcl T (tN T i) ∧ t < 120 then endO (i + 1) (t + 1) o fs tf ts lv cu (it ++ [(20, tcl T (tN T i))])
    else none
  else if tK T i = 2 ∧ twd T (i + 1) 13 then
    if t + 1 < 120 ∧ 2 ≤ tV T i ∧ tV T i ≤ 12 then some (3, i + 2, t + 2, o, fs, (21, [], 1, 1, -1) :: tf, ts, lv, (50, tV T i, -1, ts.length), it) else none
  else if tK T i = 2 ∨ tsg T i 9 ∨ tsg T i 3 ∨ (tK T i = 4 ∧ 8 ≤ tV T i ∧ tV T i ≤ 12) then some (3, i, t, o, fs, (21, [], 1, 1, -1) :: tf, ts, lv, (0, 0, -1, ts.length), it)
  else none
def mAft (i t : Nat) (o : Int) (fs : List FFr) (tf : List TFr) (ts : List TeR) (lv : List LeR) (cu : LCu) (it : List (Int × Int)) : Option Cf9 :=
  match fs with
  | [] => none
  | (j, k, a, b) :: fr =>
    if twd T i 3 then (if t < 120 then some (1, i + 1, t + 1, o, (j, k, a, b) :: fr, tf, ts, lv, cu, it) else none)
    else if twd T i 4 then (if t < 120 then some (1, i + 1, t + 1, o, (j, k, a + 1, 0) :: fr, tf, ts, lv, cu, it) else none)
    else if j = 0 ∧ (tsg T i 16 ∨ tsg T i 17) then (if t < 120 then some (1, i + 1, t + 1, o, (tV T i, k, 0, 0) :: fr, tf, ts, lv, cu, it) else none)
    else
      match fr with
      | [] => some (7, i, t, o, [(j, k, 0, 0)], tf, ts, lv, cu, it)
      | f2 :: fq => if tsg T i 2 ∧ t < 120 then endO (i + 1) (t + 1) (o - 1) (f2 :: fq) tf ts lv cu it else none
def addP (r : Int) : List TFr → List TFr
  | [] => []
  | (k, ps, s, m, n) :: tr => (k, ps ++ [(s, m, r)], s, m, n) :: tr
/-- a term ends -/
def mEnd (i t : Nat) (o : Int) (fs : List FFr) (k : Int) (ps : List PaR) (n : Int) (s m : Int) (tr : List TFr) (ts : List TeR) (lv : List LeR) (cu : LCu) (it : List (Int × Int)) : Option Cf9 :=
  if k = 21 then
    if cu.1 = 0 then
      if tK T i = 5 ∧ isCmp (tV T i) ∧ t < 120 then some (3, i + 1, t + 1, o, fs, (21, [], 1, 1, -1) :: tr, ts ++ [(30, 0, 0, ps)], lv, (tV T i, cu.2.1, ts.length, cu.2.2.2), it) else none
    else endO i t o fs tr (ts ++ [(30, 0, 0, ps)]) (lv ++ [(cu.1, cu.2.1, if cu.1 = 50 then (ts.length : Int) else cu.2.2.1, if cu.1 = 50 then (-1 : Int) else (ts.length : Int), cu.2.2.2, ts.length + 1)]) cu (it ++ [((21 : Int), (lv.length : Int))])
  else if k = 33 then some (7, i, t, o, fs, (k, ps, s, m, n) :: tr, ts ++ [(30, 0, 0, ps)], lv, cu, it)
  else if (k = 9 ∨ k = 10) ∧ n = -1 then
    if tsg T i 5 ∧ t < 120 then some (3, i + 1, t + 1, o, fs, (k, [], 1, 1, (ts.length : Int)) :: tr, ts ++ [(30, 0, 0, ps)], lv, cu, it) else none
  else if k = 11 ∨ k = 12 then
    if tsg T i 5 ∧ tK T (i + 1) = 2 ∧ 2 ≤ tV T (i + 1) ∧ tV T (i + 1) ≤ 12 ∧ tsg T (i + 2) 4 ∧ t + 2 < 120 then some (6, i + 3, t + 3, o - 1, fs, addP (ts.length + 1) tr, ts ++ [(30, 0, 0, ps)] ++ [(k, (ts.length : Int), tV T (i + 1), [])], lv, cu, it) else none
  else
    if tsg T i 4 ∧ t < 120 then some (6, i + 1, t + 1, o - 1, fs, addP (ts.length + 1) tr, ts ++ [(30, 0, 0, ps)] ++ [(k, if n = -1 then (ts.length : Int) else n, if n = -1 then 0 else (ts.length : Int), [])], lv, cu, it) else none
def mTrm (st : Int) (i t : Nat) (o : Int) (fs : List FFr) (tf : List TFr) (ts : List TeR) (lv : List LeR) (cu : LCu) (it : List (Int × Int)) : Option Cf9 :=
  match tf with
  | [] => none
  | (k, ps, s, m, n) :: tr =>
    if st = 3 then
      if tsg T i 9 then (if t < 120 then some (4, i + 1, t + 1, o, fs, (k, ps, -1, m, n) :: tr, ts, lv, cu, it) else none)
      else some (4, i, t, o, fs, (k, ps, 1, m, n) :: tr, ts, lv, cu, it)
    else if st = 4 then
      if tK T i = 2 then
        if t < 120 then
          if tsg T (i + 1) 10 then (if t + 1 < 120 then some (5, i + 2, t + 2, o, fs, (k, ps, s, tV T i, n) :: tr, ts, lv, cu, it) else none)
          else some (6, i + 1, t + 1, o, fs, (k, ps ++ [(s, tV T i, -1)], s, tV T i, n) :: tr, ts, lv, cu, it)
        else none
      else some (5, i, t, o, fs, (k, ps, s, 1, n) :: tr, ts, lv, cu, it)
    else if st = 5 then
      if tK T i = 3 then
        if 0 ≤ tvr T (tN T i) ∧ t < 120 then some (6, i + 1, t + 1, o, fs, (k, ps ++ [(s, m, (ts.length : Int))], s, m, n) :: tr, ts ++ [(31, tvr T (tN T i), 0, [])], lv, cu, it) else none
      else if tsg T i 3 then
        if t < 120 ∧ o < 12 then some (3, i + 1, t + 1, o + 1, fs, (32, [], 1, 1, -1) :: (k, ps, s, m, n) :: tr, ts, lv, cu, it) else none
      else if w = true ∧ tK T i = 4 ∧ 8 ≤ tV T i ∧ tV T i ≤ 12 then
        if tsg T (i + 1) 3 ∧ t + 1 < 120 ∧ o < 12 then some (3, i + 2, t + 2, o + 1, fs, (tV T i, [], 1, 1, -1) :: (k, ps, s, m, n) :: tr, ts, lv, cu, it) else none
      else none
    else if tsg T i 8 ∨ tsg T i 9 then
      if t < 120 then some (4, i + 1, t + 1, o, fs, (k, ps, if tsg T i 8 then 1 else -1, m, n) :: tr, ts, lv, cu, it) else none
    else mEnd T i t o fs k ps n s m tr ts lv cu it
def stp9 (c : Cf9) : Option Cf9 :=
  if c.1 = 1 then mOne T c.2.1 c.2.2.1 c.2.2.2.1 c.2.2.2.2.1 c.2.2.2.2.2.1 c.2.2.2.2.2.2.1 c.2.2.2.2.2.2.2.1 c.2.2.2.2.2.2.2.2.1 c.2.2.2.2.2.2.2.2.2
  else if c.1 = 2 then mAft T c.2.1 c.2.2.1 c.2.2.2.1 c.2.2.2.2.1 c.2.2.2.2.2.1 c.2.2.2.2.2.2.1 c.2.2.2.2.2.2.2.1 c.2.2.2.2.2.2.2.2.1 c.2.2.2.2.2.2.2.2.2
  else mTrm T w c.1 c.2.1 c.2.2.1 c.2.2.2.1 c.2.2.2.2.1 c.2.2.2.2.2.1 c.2.2.2.2.2.2.1 c.2.2.2.2.2.2.2.1 c.2.2.2.2.2.2.2.2.1 c.2.2.2.2.2.2.2.2.2
def itr9 : Nat → Cf9 → Option Cf9
  | 0, c => some c
  | n + 1, c => (stp9 T w c).bind (itr9 n)
def Rch (c c' : Cf9) : Prop := ∃ n, itr9 T w n c = some c'
def Dys (c : Cf9) : Prop := ∃ n, itr9 T w n c = none
end
section
variable {T : TkE} {w : Bool}
theorem itr9_add : ∀ (n m : Nat) (c c' : Cf9), itr9 T w n c = some c' → itr9 T w (n + m) c = itr9 T w m c'
  | 0, m, c, c', h => by
    simp only [itr9, Option.some.injEq] at h
    rw [h, Nat.zero_add]
  | n + 1, m, c, c', h => by
    rw [show n + 1 + m = (n + m) + 1 from by omega]
    simp only [itr9] at h ⊢
    cases e : stp9 T w c with
    | none => rw [e] at h; exact absurd h (by simp)
    | some d =>
      rw [e] at h
      exact itr9_add n m d c' h
theorem Rch.rf (c : Cf9) : Rch T w c c := ⟨0, rfl⟩
theorem Rch.tr {a b c : Cf9} (h1 : Rch T w a b) (h2 : Rch T w b c) : Rch T w a c := by
  obtain ⟨n, h1⟩ := h1
  obtain ⟨m, h2⟩ := h2
  exact ⟨n + m, by rw [itr9_add n m a b h1]; exact h2⟩
theorem Rch.dy {a b : Cf9} (h1 : Rch T w a b) (h2 : Dys T w b) : Dys T w a := by
  obtain ⟨n, h1⟩ := h1
  obtain ⟨m, h2⟩ := h2
  exact ⟨n + m, by rw [itr9_add n m a b h1]; exact h2⟩
theorem Rch.st {a b : Cf9} (h : stp9 T w a = some b) : Rch T w a b := ⟨1, by simp [itr9, h]⟩
theorem Dys.st {a : Cf9} (h : stp9 T w a = none) : Dys T w a := ⟨1, by simp [itr9, h]⟩
theorem stp_3 {st : Int} (hs : ¬ st = 1 ∧ ¬ st = 2) (i t : Nat) (o : Int) (fs : List FFr) (tf : List TFr) (ts : List TeR) (lv : List LeR) (cu : LCu) (it : List (Int × Int)) : stp9 T w (st, i, t, o, fs, tf, ts, lv, cu, it) = mTrm T w st i t o fs tf ts lv cu it := by
  show (if st = 1 then _ else if st = 2 then _ else _) = _
  rw [if_neg hs.1, if_neg hs.2]
theorem stp_1 (i t : Nat) (o : Int) (fs : List FFr) (tf : List TFr) (ts : List TeR) (lv : List LeR) (cu : LCu) (it : List (Int × Int)) : stp9 T w (1, i, t, o, fs, tf, ts, lv, cu, it) = mOne T i t o fs tf ts lv cu it := rfl
theorem stp_2 (i t : Nat) (o : Int) (fs : List FFr) (tf : List TFr) (ts : List TeR) (lv : List LeR) (cu : LCu) (it : List (Int × Int)) : stp9 T w (2, i, t, o, fs, tf, ts, lv, cu, it) = mAft T i t o fs tf ts lv cu it := rfl
end
theorem maf (T : TkE) (i t : Nat) (o : Int) (j : Int) (k a b : Nat) (fr : List FFr) (tf : List TFr) (ts : List TeR) (lv : List LeR) (cu : LCu) (it : List (Int × Int)) : mAft T i t o ((j, k, a, b) :: fr) tf ts lv cu it = (if twd T i 3 then (if t < 120 then some (1, i + 1, t + 1, o, (j, k, a, b) :: fr, tf, ts, lv, cu, it) else none) else if twd T i 4 then (if t < 120 then some (1, i + 1, t + 1, o, (j, k, a + 1, 0) :: fr, tf, ts, lv, cu, it) else none) else if j = 0 ∧ (tsg T i 16 ∨ tsg T i 17) then (if t < 120 then some (1, i + 1, t + 1, o, (tV T i, k, 0, 0) :: fr, tf, ts, lv, cu, it) else none) else match fr with | [] => some (7, i, t, o, [(j, k, 0, 0)], tf, ts, lv, cu, it) | f2 :: fq => if tsg T i 2 ∧ t < 120 then endO (i + 1) (t + 1) (o - 1) (f2 :: fq) tf ts lv cu it else none) := by cases fr <;> rfl
theorem maf_1 (T : TkE) (i t : Nat) (o : Int) (j : Int) (k a b : Nat) (tf : List TFr) (ts : List TeR) (lv : List LeR) (cu : LCu) (it : List (Int × Int)) : mAft T i t o [(j, k, a, b)] tf ts lv cu it = (if twd T i 3 then (if t < 120 then some (1, i + 1, t + 1, o, (j, k, a, b) :: [], tf, ts, lv, cu, it) else none) else if twd T i 4 then (if t < 120 then some (1, i + 1, t + 1, o, (j, k, a + 1, 0) :: [], tf, ts, lv, cu, it) else none) else if j = 0 ∧ (tsg T i 16 ∨ tsg T i 17) then (if t < 120 then some (1, i + 1, t + 1, o, (tV T i, k, 0, 0) :: [], tf, ts, lv, cu, it) else none) else some (7, i, t, o, [(j, k, 0, 0)], tf, ts, lv, cu, it)) := rfl
theorem maf_2 (T : TkE) (i t : Nat) (o : Int) (j : Int) (k a b : Nat) (f2 : FFr) (fq : List FFr) (tf : List TFr) (ts : List TeR) (lv : List LeR) (cu : LCu) (it : List (Int × Int)) : mAft T i t o ((j, k, a, b) :: f2 :: fq) tf ts lv cu it = (if twd T i 3 then (if t < 120 then some (1, i + 1, t + 1, o, (j, k, a, b) :: f2 :: fq, tf, ts, lv, cu, it) else none) else if twd T i 4 then (if t < 120 then some (1, i + 1, t + 1, o, (j, k, a + 1, 0) :: f2 :: fq, tf, ts, lv, cu, it) else none) else if j = 0 ∧ (tsg T i 16 ∨ tsg T i 17) then (if t < 120 then some (1, i + 1, t + 1, o, (tV T i, k, 0, 0) :: f2 :: fq, tf, ts, lv, cu, it) else none) else if tsg T i 2 ∧ t < 120 then endO (i + 1) (t + 1) (o - 1) (f2 :: fq) tf ts lv cu it else none) := rfl
theorem mt_3 (T : TkE) (w : Bool) (i t : Nat) (o : Int) (fs : List FFr) (k : Int) (ps : List PaR) (s m n : Int) (tr : List TFr) (ts : List TeR) (lv : List LeR) (cu : LCu) (it : List (Int × Int)) : mTrm T w 3 i t o fs ((k, ps, s, m, n) :: tr) ts lv cu it = (if tsg T i 9 then (if t < 120 then some (4, i + 1, t + 1, o, fs, (k, ps, -1, m, n) :: tr, ts, lv, cu, it) else none) else some (4, i, t, o, fs, (k, ps, 1, m, n) :: tr, ts, lv, cu, it)) := rfl
theorem mt_4 (T : TkE) (w : Bool) (i t : Nat) (o : Int) (fs : List FFr) (k : Int) (ps : List PaR) (s m n : Int) (tr : List TFr) (ts : List TeR) (lv : List LeR) (cu : LCu) (it : List (Int × Int)) : mTrm T w 4 i t o fs ((k, ps, s, m, n) :: tr) ts lv cu it = (if tK T i = 2 then (if t < 120 then (if tsg T (i + 1) 10 then (if t + 1 < 120 then some (5, i + 2, t + 2, o, fs, (k, ps, s, tV T i, n) :: tr, ts, lv, cu, it) else none) else some (6, i + 1, t + 1, o, fs, (k, ps ++ [(s, tV T i, -1)], s, tV T i, n) :: tr, ts, lv, cu, it)) else none) else some (5, i, t, o, fs, (k, ps, s, 1, n) :: tr, ts, lv, cu, it)) := rfl
theorem mt_5 (T : TkE) (w : Bool) (i t : Nat) (o : Int) (fs : List FFr) (k : Int) (ps : List PaR) (s m n : Int) (tr : List TFr) (ts : List TeR) (lv : List LeR) (cu : LCu) (it : List (Int × Int)) : mTrm T w 5 i t o fs ((k, ps, s, m, n) :: tr) ts lv cu it = (if tK T i = 3 then (if 0 ≤ tvr T (tN T i) ∧ t < 120 then some (6, i + 1, t + 1, o, fs, (k, ps ++ [(s, m, (ts.length : Int))], s, m, n) :: tr, ts ++ [(31, tvr T (tN T i), 0, [])], lv, cu, it) else none) else if tsg T i 3 then (if t < 120 ∧ o < 12 then some (3, i + 1, t + 1, o + 1, fs, (32, [], 1, 1, -1) :: (k, ps, s, m, n) :: tr, ts, lv, cu, it) else none) else if w = true ∧ tK T i = 4 ∧ 8 ≤ tV T i ∧ tV T i ≤ 12 then (if tsg T (i + 1) 3 ∧ t + 1 < 120 ∧ o < 12 then some (3, i + 2, t + 2, o + 1, fs, (tV T i, [], 1, 1, -1) :: (k, ps, s, m, n) :: tr, ts, lv, cu, it) else none) else none) := rfl
theorem mt_6 (T : TkE) (w : Bool) (i t : Nat) (o : Int) (fs : List FFr) (k : Int) (ps : List PaR) (s m n : Int) (tr : List TFr) (ts : List TeR) (lv : List LeR) (cu : LCu) (it : List (Int × Int)) : mTrm T w 6 i t o fs ((k, ps, s, m, n) :: tr) ts lv cu it = (if tsg T i 8 ∨ tsg T i 9 then (if t < 120 then some (4, i + 1, t + 1, o, fs, (k, ps, if tsg T i 8 then 1 else -1, m, n) :: tr, ts, lv, cu, it) else none) else mEnd T i t o fs k ps n s m tr ts lv cu it) := rfl
/-- a term is read from its first token on -/
def TRUN (T : TkE) (p : P9) (d : Nat) : Prop := ∀ (i t : Nat) (o : Int) (fs : List FFr) (k n : Int) (tr : List TFr) (ts : List TeR) (lv : List LeR) (cu : LCu) (it : List (Int × Int)), o + d = 12 →
  (p i t = none → Dys T true (3, i, t, o, fs, (k, [], 1, 1, n) :: tr, ts, lv, cu, it)) ∧
  (∀ c j u, p i t = some (c, j, u) → ∃ ps s m ts' c0, c = c0 ++ [43] ∧ Rch T true (3, i, t, o, fs, (k, [], 1, 1, n) :: tr, ts, lv, cu, it) (6, j, u, o, fs, (k, ps, s, m, n) :: tr, ts', lv, cu, it) ∧ ¬ (tsg T j 8 ∨ tsg T j 9) ∧ SEMP c0 ts ts' ps)
def FRUN (T : TkE) (p : P9) (d : Nat) : Prop := ∀ (i t : Nat) (o : Int) (fs : List FFr) (k : Int) (ps : List PaR) (s m n : Int) (tr : List TFr) (ts : List TeR) (lv : List LeR) (cu : LCu) (it : List (Int × Int)), o + d = 12 →
  (p i t = none → Dys T true (5, i, t, o, fs, (k, ps, s, m, n) :: tr, ts, lv, cu, it)) ∧
  (∀ c j u, p i t = some (c, j, u) → ∃ ts' r, Rch T true (5, i, t, o, fs, (k, ps, s, m, n) :: tr, ts, lv, cu, it) (6, j, u, o, fs, (k, ps ++ [(s, m, r)], s, m, n) :: tr, ts', lv, cu, it) ∧ SEMF c ts ts' r)
def PRUN (T : TkE) (p : Bool → P9) (d : Nat) : Prop := ∀ (neg : Bool) (i t : Nat) (o : Int) (fs : List FFr) (k : Int) (ps : List PaR) (m n : Int) (tr : List TFr) (ts : List TeR) (lv : List LeR) (cu : LCu) (it : List (Int × Int)), o + d = 12 →
  (p neg i t = none → Dys T true (4, i, t, o, fs, (k, ps, if neg = true then -1 else 1, m, n) :: tr, ts, lv, cu, it)) ∧
  (∀ c j u, p neg i t = some (c, j, u) → ∃ ts' q m', Rch T true (4, i, t, o, fs, (k, ps, if neg = true then -1 else 1, m, n) :: tr, ts, lv, cu, it) (6, j, u, o, fs, (k, ps ++ [q], if neg = true then -1 else 1, m', n) :: tr, ts', lv, cu, it) ∧ SEMQ c ts ts' q)
theorem prun {T : TkE} {can : Bool} {inner : P9} {d : Nat} (h : FRUN T (fac9 T can inner) d) : PRUN T (par9 T can inner) d := by
  intro neg i t o fs k ps m n tr ts lv cu it ho
  by_cases c1 : tK T i = 2
  · by_cases c2 : t < 120
    · by_cases c3 : tsg T (i + 1) 10
      · by_cases c4 : t + 1 < 120
        · have st : Rch T true (4, i, t, o, fs, (k, ps, if neg = true then -1 else 1, m, n) :: tr, ts, lv, cu, it) (5, i + 2, t + 2, o, fs, (k, ps, if neg = true then -1 else 1, tV T i, n) :: tr, ts, lv, cu, it) := Rch.st (by
            rw [stp_3 (by decide)]; rw [mt_4, if_pos c1, if_pos c2, if_pos c3, if_pos c4])
          have e : par9 T can inner neg i t = (match fac9 T can inner (i + 2) (t + 2) with | none => none | some (f, j, u) => some (f ++ [13 + 64 * tV T i] ++ cN neg ++ [43], j, u)) := by
            rw [par9, if_pos c1, if_pos c2, if_pos c3, if_pos c4]; rfl
          obtain ⟨a1, a2⟩ := h (i + 2) (t + 2) o fs k ps (if neg = true then -1 else 1) (tV T i) n tr ts lv cu it ho
          rw [e]
          cases f : fac9 T can inner (i + 2) (t + 2) with
          | none => exact ⟨fun _ => st.dy (a1 f), fun c j u g => absurd g (by simp)⟩
          | some x =>
            obtain ⟨c, j, u⟩ := x
            obtain ⟨ts', r, b1, b2⟩ := a2 c j u f
            refine ⟨fun g => absurd g (by simp), fun c' j' u' g => ?_⟩
            simp only [Option.some.injEq, Prod.mk.injEq] at g
            obtain ⟨rfl, rfl, rfl⟩ := g
            exact ⟨ts', _, _, st.tr b1, semq_tim neg b2⟩
        · have e : par9 T can inner neg i t = none := by rw [par9, if_pos c1, if_pos c2, if_pos c3, if_neg c4]
          rw [e]
          exact ⟨fun _ => Dys.st (by rw [stp_3 (by decide)]; rw [mt_4, if_pos c1, if_pos c2, if_pos c3, if_neg c4]), fun c j u g => absurd g (by simp)⟩
      · have e : par9 T can inner neg i t = some ([2 + 64 * tV T i] ++ cN neg ++ [43], i + 1, t + 1) := by rw [par9, if_pos c1, if_pos c2, if_neg c3]
        rw [e]
        refine ⟨fun g => absurd g (by simp), fun c' j' u' g => ?_⟩
        simp only [Option.some.injEq, Prod.mk.injEq] at g
        obtain ⟨rfl, rfl, rfl⟩ := g
        exact ⟨ts, _, _, Rch.st (by rw [stp_3 (by decide)]; rw [mt_4, if_pos c1, if_pos c2, if_neg c3]), semq_num neg ts⟩
    · have e : par9 T can inner neg i t = none := by rw [par9, if_pos c1, if_neg c2]
      rw [e]
      exact ⟨fun _ => Dys.st (by rw [stp_3 (by decide)]; rw [mt_4, if_pos c1, if_neg c2]), fun c j u g => absurd g (by simp)⟩
  · have st : Rch T true (4, i, t, o, fs, (k, ps, if neg = true then -1 else 1, m, n) :: tr, ts, lv, cu, it) (5, i, t, o, fs, (k, ps, if neg = true then -1 else 1, 1, n) :: tr, ts, lv, cu, it) := Rch.st (by
      rw [stp_3 (by decide)]; rw [mt_4, if_neg c1])
    have e : par9 T can inner neg i t = (match fac9 T can inner i t with | none => none | some (f, j, u) => some (f ++ cN neg ++ [43], j, u)) := by rw [par9, if_neg c1]; rfl
    obtain ⟨a1, a2⟩ := h i t o fs k ps (if neg = true then -1 else 1) 1 n tr ts lv cu it ho
    rw [e]
    cases f : fac9 T can inner i t with
    | none => exact ⟨fun _ => st.dy (a1 f), fun c j u g => absurd g (by simp)⟩
    | some x =>
      obtain ⟨c, j, u⟩ := x
      obtain ⟨ts', r, b1, b2⟩ := a2 c j u f
      refine ⟨fun g => absurd g (by simp), fun c' j' u' g => ?_⟩
      simp only [Option.some.injEq, Prod.mk.injEq] at g
      obtain ⟨rfl, rfl, rfl⟩ := g
      exact ⟨ts', _, _, st.tr b1, semq_fac neg b2⟩
/-- parts behind the first -/
theorem srun {T : TkE} {can : Bool} {inner : P9} {d : Nat} (hi : On9 inner) (h : FRUN T (fac9 T can inner) d) : ∀ (M : Nat) (i t : Nat) (o : Int) (fs : List FFr) (k : Int) (ps : List PaR) (s m n : Int) (tr : List TFr) (ts t0 : List TeR) (lv : List LeR) (cu : LCu) (it : List (Int × Int)) (c0 : List Int), 121 - t = M → o + d = 12 → SEMP c0 t0 ts ps →
    (sum9 T can inner c0 i t = none → Dys T true (6, i, t, o, fs, (k, ps, s, m, n) :: tr, ts, lv, cu, it)) ∧
    (∀ c j u, sum9 T can inner c0 i t = some (c, j, u) → ∃ qs s' m' ts' c1, c = c1 ++ [43] ∧ Rch T true (6, i, t, o, fs, (k, ps, s, m, n) :: tr, ts, lv, cu, it) (6, j, u, o, fs, (k, qs, s', m', n) :: tr, ts', lv, cu, it) ∧ ¬ (tsg T j 8 ∨ tsg T j 9) ∧ SEMP c1 t0 ts' qs) := by
  intro M
  induction M using Nat.strongRecOn with
  | _ M ih =>
    intro i t o fs k ps s m n tr ts t0 lv cu it c0 hM ho hP
    by_cases c1 : tsg T i 8 ∨ tsg T i 9
    · by_cases c2 : t < 120
      · have e : sum9 T can inner c0 i t = (match par9 T can inner (decide (tsg T i 9)) (i + 1) (t + 1) with | none => none | some (p, j, u) => if t < u ∧ u ≤ 120 then sum9 T can inner (c0 ++ p ++ [11]) j u else none) := by
          rw [sum9, if_pos c1, if_pos c2]; rfl
        have es : (if tsg T i 8 then (1 : Int) else -1) = if decide (tsg T i 9) = true then -1 else 1 := by
          by_cases z : tsg T i 9
          · rw [if_neg (fun q => by have := q.2; have := z.2; omega), decide_eq_true z]; rfl
          · rw [if_pos (c1.resolve_right z), decide_eq_false z]; rfl
        have st : Rch T true (6, i, t, o, fs, (k, ps, s, m, n) :: tr, ts, lv, cu, it) (4, i + 1, t + 1, o, fs, (k, ps, if decide (tsg T i 9) = true then -1 else 1, m, n) :: tr, ts, lv, cu, it) := Rch.st (by
          rw [stp_3 (by decide)]; rw [mt_6, if_pos c1, if_pos c2, es])
        obtain ⟨a1, a2⟩ := prun h (decide (tsg T i 9)) (i + 1) (t + 1) o fs k ps m n tr ts lv cu it ho
        rw [e]
        cases f : par9 T can inner (decide (tsg T i 9)) (i + 1) (t + 1) with
        | none => exact ⟨fun _ => st.dy (a1 f), fun c j u g => absurd g (by simp)⟩
        | some x =>
          obtain ⟨c, j, u⟩ := x
          obtain ⟨ts', q, m', b1, b2⟩ := a2 c j u f
          have on := par9_on hi _ _ _ _ _ _ f (by omega)
          have cu9 : t < u ∧ u ≤ 120 := by omega
          show ((if t < u ∧ u ≤ 120 then sum9 T can inner (c0 ++ c ++ [11]) j u else none) = none → _) ∧ (∀ c' j' u', (if t < u ∧ u ≤ 120 then sum9 T can inner (c0 ++ c ++ [11]) j u else none) = some (c', j', u') → _)
          rw [if_pos cu9]
          obtain ⟨d1, d2⟩ := ih (121 - u) (by omega) j u o fs k (ps ++ [q]) (if decide (tsg T i 9) = true then -1 else 1) m' n tr ts' t0 lv cu it (c0 ++ c ++ [11]) rfl ho (semp_go hP b2)
          refine ⟨fun g => (st.tr b1).dy (d1 g), fun c' j' u' g => ?_⟩
          obtain ⟨qs, s', m2, t2, c9, g1, g2, g3, g4⟩ := d2 c' j' u' g
          exact ⟨qs, s', m2, t2, c9, g1, (st.tr b1).tr g2, g3, g4⟩
      · have e : sum9 T can inner c0 i t = none := by rw [sum9, if_pos c1, if_neg c2]
        rw [e]
        exact ⟨fun _ => Dys.st (by rw [stp_3 (by decide)]; rw [mt_6, if_pos c1, if_neg c2]), fun c j u g => absurd g (by simp)⟩
    · have e : sum9 T can inner c0 i t = some (c0 ++ [43], i, t) := by rw [sum9, if_neg c1]
      rw [e]
      refine ⟨fun g => absurd g (by simp), fun c' j' u' g => ?_⟩
      simp only [Option.some.injEq, Prod.mk.injEq] at g
      obtain ⟨rfl, rfl, rfl⟩ := g
      exact ⟨ps, s, m, ts, c0, rfl, Rch.rf _, c1, hP⟩
theorem trun {T : TkE} {can : Bool} {inner : P9} {d : Nat} (hi : On9 inner) (h : FRUN T (fac9 T can inner) d) : TRUN T (trm9 T can inner) d := by
  intro i t o fs k n tr ts lv cu it ho
  have go : ∀ (neg : Bool) (i' t' : Nat), Rch T true (3, i, t, o, fs, (k, [], 1, 1, n) :: tr, ts, lv, cu, it) (4, i', t', o, fs, (k, [], if neg = true then -1 else 1, 1, n) :: tr, ts, lv, cu, it) →
      trm9 T can inner i t = (match par9 T can inner neg i' t' with | none => none | some (p, j, u) => sum9 T can inner p j u) →
      (trm9 T can inner i t = none → Dys T true (3, i, t, o, fs, (k, [], 1, 1, n) :: tr, ts, lv, cu, it)) ∧
      (∀ c j u, trm9 T can inner i t = some (c, j, u) → ∃ ps s m ts' c0, c = c0 ++ [43] ∧ Rch T true (3, i, t, o, fs, (k, [], 1, 1, n) :: tr, ts, lv, cu, it) (6, j, u, o, fs, (k, ps, s, m, n) :: tr, ts', lv, cu, it) ∧ ¬ (tsg T j 8 ∨ tsg T j 9) ∧ SEMP c0 ts ts' ps) := by
    intro neg i' t' st e
    rw [e]
    obtain ⟨a1, a2⟩ := prun h neg i' t' o fs k [] 1 n tr ts lv cu it ho
    cases f : par9 T can inner neg i' t' with
    | none => exact ⟨fun _ => st.dy (a1 f), fun c j u g => absurd g (by simp)⟩
    | some x =>
      obtain ⟨c, j, u⟩ := x
      obtain ⟨ts', q, m', b1, b2⟩ := a2 c j u f
      obtain ⟨d1, d2⟩ := srun hi h (121 - u) j u o fs k [q] (if neg = true then -1 else 1) m' n tr ts' ts lv cu it c rfl ho (semp_one b2)
      refine ⟨fun g => (st.tr b1).dy (d1 g), fun c' j' u' g => ?_⟩
      obtain ⟨qs, s', m2, t2, c9, g1, g2, g3, g4⟩ := d2 c' j' u' g
      exact ⟨qs, s', m2, t2, c9, g1, (st.tr b1).tr g2, g3, g4⟩
  by_cases c1 : tsg T i 9
  · by_cases c2 : t < 120
    · refine go true (i + 1) (t + 1) (Rch.st ?_) ?_
      · rw [stp_3 (by decide)]; rw [mt_3, if_pos c1, if_pos c2]; rfl
      · rw [trm9, if_pos c1, if_pos c2]; rfl
    · have e : trm9 T can inner i t = none := by rw [trm9, if_pos c1, if_neg c2]
      rw [e]
      exact ⟨fun _ => Dys.st (by rw [stp_3 (by decide)]; rw [mt_3, if_pos c1, if_neg c2]), fun c j u g => absurd g (by simp)⟩
  · refine go false i t (Rch.st ?_) ?_
    · rw [stp_3 (by decide)]; rw [mt_3, if_neg c1]; rfl
    · rw [trm9, if_neg c1]; rfl
theorem stp_6 {T : TkE} {w : Bool} {j u : Nat} (hj : ¬ (tsg T j 8 ∨ tsg T j 9)) (o : Int) (fs : List FFr) (k : Int) (ps : List PaR) (s m n : Int) (tr : List TFr) (ts : List TeR) (lv : List LeR) (cu : LCu) (it : List (Int × Int)) : stp9 T w (6, j, u, o, fs, (k, ps, s, m, n) :: tr, ts, lv, cu, it) = mEnd T j u o fs k ps n s m tr ts lv cu it := by
  rw [stp_3 (by decide)]; rw [mt_6, if_neg hj]
/-- what stands in brackets ends -/
theorem bend {T : TkE} {inner : P9} {d : Nat} (h : TRUN T inner d) {w kk : Int} (hw : (w = 3 ∧ kk = 32) ∨ (w = kk ∧ 8 ≤ w ∧ w ≤ 12)) {j u : Nat} (hj : ¬ (tsg T j 8 ∨ tsg T j 9)) {o : Int} (ho : o + 1 + d = 12) (fs : List FFr) (qs : List PaR) (s' m' : Int) (k : Int) (ps : List PaR) (s m n : Int) (tr : List TFr) {ts t1 : List TeR} (lv : List LeR) (cu : LCu) (it : List (Int × Int)) {a0 : List Int} (hP : SEMP a0 ts t1 qs) :
    (brkR T inner w (a0 ++ [43]) j u = none → Dys T true (6, j, u, o + 1, fs, (kk, qs, s', m', -1) :: (k, ps, s, m, n) :: tr, t1, lv, cu, it)) ∧
    (∀ c j' u', brkR T inner w (a0 ++ [43]) j u = some (c, j', u') → ∃ ts' r, Rch T true (6, j, u, o + 1, fs, (kk, qs, s', m', -1) :: (k, ps, s, m, n) :: tr, t1, lv, cu, it) (6, j', u', o, fs, (k, ps ++ [(s, m, r)], s, m, n) :: tr, ts', lv, cu, it) ∧ SEMF c ts ts' r) := by
  have hS := semf_sum hP
  by_cases c1 : w = 9 ∨ w = 10
  · have ek : kk = w := by omega
    subst ek
    by_cases c2 : tsg T j 5 ∧ u < 120
    · have st : Rch T true (6, j, u, o + 1, fs, (kk, qs, s', m', -1) :: (k, ps, s, m, n) :: tr, t1, lv, cu, it) (3, j + 1, u + 1, o + 1, fs, (kk, [], 1, 1, (t1.length : Int)) :: (k, ps, s, m, n) :: tr, t1 ++ [(30, 0, 0, qs)], lv, cu, it) := Rch.st (by
        rw [stp_6 hj, mEnd, if_neg (by omega), if_neg (by omega), if_pos ⟨c1, rfl⟩, if_pos c2])
      have e : brkR T inner kk (a0 ++ [43]) j u = (match inner (j + 1) (u + 1) with | none => none | some (c, k, x) => if tsg T k 4 ∧ x < 120 then some (a0 ++ [43] ++ c ++ [if kk = 10 then 30 else 29], k + 1, x + 1) else none) := by
        rw [brkR, if_pos c1, if_pos c2]; rfl
      obtain ⟨a1, a2⟩ := h (j + 1) (u + 1) (o + 1) fs kk t1.length ((k, ps, s, m, n) :: tr) (t1 ++ [(30, 0, 0, qs)]) lv cu it ho
      rw [e]
      cases f : inner (j + 1) (u + 1) with
      | none => exact ⟨fun _ => st.dy (a1 f), fun c j' u' g => absurd g (by simp)⟩
      | some x =>
        obtain ⟨c, j2, u2⟩ := x
        obtain ⟨rs, s2, m2, t2, c0, rfl, b1, b2, b3⟩ := a2 c j2 u2 f
        show ((if tsg T j2 4 ∧ u2 < 120 then _ else _) = none → _) ∧ (∀ c j' u', (if tsg T j2 4 ∧ u2 < 120 then _ else _) = some (c, j', u') → _)
        by_cases c3 : tsg T j2 4 ∧ u2 < 120
        · rw [if_pos c3]
          refine ⟨fun g => absurd g (by simp), fun c' j' u' g => ?_⟩
          simp only [Option.some.injEq, Prod.mk.injEq] at g
          obtain ⟨rfl, rfl, rfl⟩ := g
          refine ⟨t2 ++ [(30, 0, 0, rs)] ++ [(kk, (t1.length : Int), (t2.length : Int), [])], (t2 ++ [(30, 0, 0, rs)]).length, (st.tr b1).tr (Rch.st ?_), semf_wd2 hS (semf_sum b3) c1 (by split <;> omega)⟩
          rw [stp_6 b2, mEnd, if_neg (by omega), if_neg (by omega), if_neg (by omega), if_neg (by omega), if_pos c3, if_neg (by omega), if_neg (by omega)]
          simp [addP, Int.add_sub_cancel]
        · rw [if_neg c3]
          refine ⟨fun _ => (st.tr b1).dy (Dys.st ?_), fun c' j' u' g => absurd g (by simp)⟩
          rw [stp_6 b2, mEnd, if_neg (by omega), if_neg (by omega), if_neg (by omega), if_neg (by omega), if_neg c3]
    · have e : brkR T inner kk (a0 ++ [43]) j u = none := by rw [brkR, if_pos c1, if_neg c2]
      rw [e]
      refine ⟨fun _ => Dys.st ?_, fun c' j' u' g => absurd g (by simp)⟩
      rw [stp_6 hj, mEnd, if_neg (by omega), if_neg (by omega), if_pos ⟨c1, rfl⟩, if_neg c2]
  · by_cases c2 : w = 11 ∨ w = 12
    · have ek : kk = w := by omega
      subst ek
      by_cases c3 : tsg T j 5 ∧ tK T (j + 1) = 2 ∧ 2 ≤ tV T (j + 1) ∧ tV T (j + 1) ≤ 12 ∧ tsg T (j + 2) 4 ∧ u + 2 < 120
      · have e : brkR T inner kk (a0 ++ [43]) j u = some (a0 ++ [43] ++ [(if kk = 12 then 32 else 31) + 64 * tV T (j + 1)], j + 3, u + 3) := by
          rw [brkR, if_neg c1, if_pos c2, if_pos c3]
        rw [e]
        refine ⟨fun g => absurd g (by simp), fun c' j' u' g => ?_⟩
        simp only [Option.some.injEq, Prod.mk.injEq] at g
        obtain ⟨rfl, rfl, rfl⟩ := g
        refine ⟨t1 ++ [(30, 0, 0, qs)] ++ [(kk, (t1.length : Int), tV T (j + 1), [])], (t1 ++ [(30, 0, 0, qs)]).length, Rch.st ?_, semf_wd1 hS (Or.inr ⟨c2, c3.2.2.1, c3.2.2.2.1⟩) (by split <;> omega)⟩
        rw [stp_6 hj, mEnd, if_neg (by omega), if_neg (by omega), if_neg (fun q => c1 q.1), if_pos c2, if_pos c3]
        simp [addP, Int.add_sub_cancel]
      · have e : brkR T inner kk (a0 ++ [43]) j u = none := by rw [brkR, if_neg c1, if_pos c2, if_neg c3]
        rw [e]
        refine ⟨fun _ => Dys.st ?_, fun c' j' u' g => absurd g (by simp)⟩
        rw [stp_6 hj, mEnd, if_neg (by omega), if_neg (by omega), if_neg (fun q => c1 q.1), if_pos c2, if_neg c3]
    · have f1 : ¬ ((kk = 9 ∨ kk = 10) ∧ (-1 : Int) = -1) := by omega
      have f2 : ¬ (kk = 11 ∨ kk = 12) := by omega
      by_cases c3 : tsg T j 4 ∧ u < 120
      · have e : brkR T inner w (a0 ++ [43]) j u = some (if w = 8 then (a0 ++ [43]) ++ [28] else a0 ++ [43], j + 1, u + 1) := by
          rw [brkR, if_neg c1, if_neg c2, if_pos c3]
        rw [e]
        refine ⟨fun g => absurd g (by simp), fun c' j' u' g => ?_⟩
        simp only [Option.some.injEq, Prod.mk.injEq] at g
        obtain ⟨rfl, rfl, rfl⟩ := g
        refine ⟨t1 ++ [(30, 0, 0, qs)] ++ [(kk, (t1.length : Int), 0, [])], (t1 ++ [(30, 0, 0, qs)]).length, Rch.st ?_, ?_⟩
        · rw [stp_6 hj, mEnd, if_neg (by omega), if_neg (by omega), if_neg f1, if_neg f2, if_pos c3, if_pos rfl, if_pos rfl]
          simp [addP, Int.add_sub_cancel]
        · by_cases c4 : w = 8
          · rw [if_pos c4]; exact semf_wd1 hS (Or.inl ⟨by omega, rfl⟩) (by omega)
          · rw [if_neg c4, show kk = 32 from by omega]; exact semf_brk hS
      · have e : brkR T inner w (a0 ++ [43]) j u = none := by rw [brkR, if_neg c1, if_neg c2, if_neg c3]
        rw [e]
        refine ⟨fun _ => Dys.st ?_, fun c' j' u' g => absurd g (by simp)⟩
        rw [stp_6 hj, mEnd, if_neg (by omega), if_neg (by omega), if_neg f1, if_neg f2, if_neg c3]
theorem brun {T : TkE} {inner : P9} {d : Nat} (h : TRUN T inner d) {w kk : Int} (hw : (w = 3 ∧ kk = 32) ∨ (w = kk ∧ 8 ≤ w ∧ w ≤ 12)) {i t : Nat} (h1 : tsg T i 3) (h2 : t < 120) {o : Int} (ho : o + 1 + d = 12) (fs : List FFr) (k : Int) (ps : List PaR) (s m n : Int) (tr : List TFr) (ts : List TeR) (lv : List LeR) (cu : LCu) (it : List (Int × Int)) :
    (brk9 T true inner w i t = none → Dys T true (3, i + 1, t + 1, o + 1, fs, (kk, [], 1, 1, -1) :: (k, ps, s, m, n) :: tr, ts, lv, cu, it)) ∧
    (∀ c j' u', brk9 T true inner w i t = some (c, j', u') → ∃ ts' r, Rch T true (3, i + 1, t + 1, o + 1, fs, (kk, [], 1, 1, -1) :: (k, ps, s, m, n) :: tr, ts, lv, cu, it) (6, j', u', o, fs, (k, ps ++ [(s, m, r)], s, m, n) :: tr, ts', lv, cu, it) ∧ SEMF c ts ts' r) := by
  have e : brk9 T true inner w i t = (match inner (i + 1) (t + 1) with | none => none | some (a, j, u) => brkR T inner w a j u) := by
    rw [brk9, if_pos ⟨h1, h2, rfl⟩]; rfl
  obtain ⟨a1, a2⟩ := h (i + 1) (t + 1) (o + 1) fs kk (-1) ((k, ps, s, m, n) :: tr) ts lv cu it ho
  rw [e]
  cases f : inner (i + 1) (t + 1) with
  | none => exact ⟨fun _ => a1 f, fun c j' u' g => absurd g (by simp)⟩
  | some x =>
    obtain ⟨a, j, u⟩ := x
    obtain ⟨qs, s', m', t1, a0, rfl, b1, b2, b3⟩ := a2 a j u f
    obtain ⟨d1, d2⟩ := bend h hw b2 ho fs qs s' m' k ps s m n tr lv cu it (u := u) b3
    refine ⟨fun g => b1.dy (d1 g), fun c j' u' g => ?_⟩
    obtain ⟨ts', r, g1, g2⟩ := d2 c j' u' g
    exact ⟨ts', r, b1.tr g1, g2⟩
theorem frun {T : TkE} {can : Bool} {inner : P9} {d : Nat} (hc : can = true ↔ 0 < d) (h : can = true → TRUN T inner (d - 1)) : FRUN T (fac9 T can inner) d := by
  intro i t o fs k ps s m n tr ts lv cu it ho
  by_cases c1 : tK T i = 3
  · by_cases c2 : 0 ≤ tvr T (tN T i) ∧ t < 120
    · have e : fac9 T can inner i t = some ([41 + 64 * tvr T (tN T i)], i + 1, t + 1) := by rw [fac9, if_pos c1, if_pos c2]
      rw [e]
      refine ⟨fun g => absurd g (by simp), fun c' j' u' g => ?_⟩
      simp only [Option.some.injEq, Prod.mk.injEq] at g
      obtain ⟨rfl, rfl, rfl⟩ := g
      exact ⟨_, _, Rch.st (by rw [stp_3 (by decide)]; rw [mt_5, if_pos c1, if_pos c2]), semf_var ts⟩
    · have e : fac9 T can inner i t = none := by rw [fac9, if_pos c1, if_neg c2]
      rw [e]
      exact ⟨fun _ => Dys.st (by rw [stp_3 (by decide)]; rw [mt_5, if_pos c1, if_neg c2]), fun c j u g => absurd g (by simp)⟩
  · by_cases c2 : tsg T i 3
    · have e : fac9 T can inner i t = brk9 T can inner 3 i t := by rw [fac9, if_neg c1, if_pos c2]
      rw [e]
      by_cases c3 : t < 120 ∧ o < 12
      · have ec : can = true := hc.mpr (by omega)
        subst ec
        have st : Rch T true (5, i, t, o, fs, (k, ps, s, m, n) :: tr, ts, lv, cu, it) (3, i + 1, t + 1, o + 1, fs, (32, [], 1, 1, -1) :: (k, ps, s, m, n) :: tr, ts, lv, cu, it) := Rch.st (by
          rw [stp_3 (by decide)]; rw [mt_5, if_neg c1, if_pos c2, if_pos c3])
        obtain ⟨d1, d2⟩ := brun (h rfl) (w := 3) (kk := 32) (Or.inl ⟨rfl, rfl⟩) c2 c3.1 (o := o) (by have := hc.mp rfl; omega) fs k ps s m n tr ts lv cu it
        refine ⟨fun g => st.dy (d1 g), fun c j' u' g => ?_⟩
        obtain ⟨ts', r, g1, g2⟩ := d2 c j' u' g
        exact ⟨ts', r, st.tr g1, g2⟩
      · have e2 : brk9 T can inner 3 i t = none := by
          rw [brk9, if_neg (fun q => c3 ⟨q.2.1, by have := hc.mp q.2.2; omega⟩)]
        rw [e2]
        exact ⟨fun _ => Dys.st (by rw [stp_3 (by decide)]; rw [mt_5, if_neg c1, if_pos c2, if_neg c3]), fun c j u g => absurd g (by simp)⟩
    · by_cases c3 : tK T i = 4 ∧ 8 ≤ tV T i ∧ tV T i ≤ 12
      · have e : fac9 T can inner i t = (if t < 120 then brk9 T can inner (tV T i) (i + 1) (t + 1) else none) := by rw [fac9, if_neg c1, if_neg c2, if_pos c3]
        rw [e]
        by_cases c4 : tsg T (i + 1) 3 ∧ t + 1 < 120 ∧ o < 12
        · have ec : can = true := hc.mpr (by omega)
          subst ec
          have st : Rch T true (5, i, t, o, fs, (k, ps, s, m, n) :: tr, ts, lv, cu, it) (3, i + 2, t + 2, o + 1, fs, (tV T i, [], 1, 1, -1) :: (k, ps, s, m, n) :: tr, ts, lv, cu, it) := Rch.st (by
            rw [stp_3 (by decide)]; rw [mt_5, if_neg c1, if_neg c2, if_pos ⟨rfl, c3⟩, if_pos c4])
          obtain ⟨d1, d2⟩ := brun (h rfl) (w := tV T i) (kk := tV T i) (Or.inr ⟨rfl, c3.2⟩) c4.1 c4.2.1 (o := o) (by have := hc.mp rfl; omega) fs k ps s m n tr ts lv cu it
          rw [if_pos (by omega)]
          refine ⟨fun g => st.dy (d1 g), fun c j' u' g => ?_⟩
          obtain ⟨ts', r, g1, g2⟩ := d2 c j' u' g
          exact ⟨ts', r, st.tr g1, g2⟩
        · have e2 : (if t < 120 then brk9 T can inner (tV T i) (i + 1) (t + 1) else none) = none := by
            split
            · rw [brk9, if_neg (fun q => c4 ⟨q.1, q.2.1, by have := hc.mp q.2.2; omega⟩)]
            · rfl
          rw [e2]
          exact ⟨fun _ => Dys.st (by rw [stp_3 (by decide)]; rw [mt_5, if_neg c1, if_neg c2, if_pos ⟨rfl, c3⟩, if_neg c4]), fun c j u g => absurd g (by simp)⟩
      · have e : fac9 T can inner i t = none := by rw [fac9, if_neg c1, if_neg c2, if_neg c3]
        rw [e]
        exact ⟨fun _ => Dys.st (by rw [stp_3 (by decide)]; rw [mt_5, if_neg c1, if_neg c2, if_neg (fun q => c3 q.2)]), fun c j u g => absurd g (by simp)⟩
theorem trunD (T : TkE) : ∀ d, TRUN T (trmD T d) d
  | 0 => trun on9_none (frun ⟨fun h => absurd h (by decide), fun h => absurd h (by decide)⟩ (fun h => absurd h (by decide)))
  | d + 1 => trun (trmD_on T d) (frun ⟨fun _ => Nat.succ_pos d, fun _ => rfl⟩ (fun _ => trunD T d))
/-- a leaf's steps, and the rows of terms that it adds -/
def SEML (c : List Int) (ts ts' : List TeR) (lf : LeR) : Prop :=
  lf.2.2.2.2 = (ts.length, ts'.length) ∧
  ((lf.1 = 50 ∧ 2 ≤ lf.2.1 ∧ lf.2.1 ≤ 12 ∧ ∃ a, c = a ++ [33 + 64 * lf.2.1] ∧ SEMF a ts ts' lf.2.2.1) ∨
   (isCmp lf.1 ∧ ∃ a b t1, c = a ++ b ++ [3 + lf.1] ∧ SEMF a ts t1 lf.2.2.1 ∧ SEMF b t1 ts' lf.2.2.2.1))
abbrev IT9 : Type := List TeR × List LeR × List (Int × Int)
def PCE (c : List Int) (x y : IT9) : Prop :=
  (∃ lf, SEML c x.1 y.1 lf ∧ y.2.1 = x.2.1 ++ [lf] ∧ y.2.2 = x.2.2 ++ [(21, (x.2.1.length : Int))]) ∨
  (∃ a, 0 ≤ a ∧ c = [42 + 64 * a] ∧ y.1 = x.1 ∧ y.2.1 = x.2.1 ∧ y.2.2 = x.2.2 ++ [(20, a)]) ∨
  (∃ op, (op = 19 ∨ op = 20 ∨ (23 ≤ op ∧ op ≤ 27)) ∧ c = [op] ∧ y = x)
def PCS : Nat → List Int → IT9 → IT9 → Prop
  | 0, c, x, y => c = [] ∧ y = x
  | n + 1, c, x, y => ∃ c1 c2 z, c = c1 ++ c2 ∧ PCS n c1 x z ∧ PCE c2 z y
def SEMI (c : List Int) (x y : IT9) : Prop := ∃ n, PCS n c x y
theorem SEMI.one {c : List Int} {x y : IT9} (h : PCE c x y) : SEMI c x y := ⟨1, [], c, x, rfl, ⟨rfl, rfl⟩, h⟩
theorem SEMI.app {a b : List Int} {x y z : IT9} (h1 : SEMI a x y) (h2 : SEMI b y z) : SEMI (a ++ b) x z := by
  obtain ⟨n, h1⟩ := h1
  obtain ⟨m, h2⟩ := h2
  have key : ∀ (m : Nat) (b : List Int) (z : IT9), PCS m b y z → PCS (n + m) (a ++ b) x z := by
    intro m
    induction m with
    | zero =>
      intro b z h
      obtain ⟨rfl, rfl⟩ := h
      rw [List.append_nil]; exact h1
    | succ m ih =>
      intro b z h
      obtain ⟨c1, c2, u, rfl, g1, g2⟩ := h
      exact ⟨a ++ c1, c2, u, by rw [List.append_assoc], ih c1 u g1, g2⟩
  exact ⟨n + m, key m b z h2⟩
theorem semi_op {op : Int} (x : IT9) (h : op = 19 ∨ op = 20 ∨ (23 ≤ op ∧ op ≤ 27)) : SEMI [op] x x := SEMI.one (Or.inr (Or.inr ⟨op, h, rfl, rfl⟩))
/-- one, with so many 'not' ahead of it -/
def ORUN (T : TkE) (p : P9) (d : Nat) : Prop := ∀ (i t : Nat) (o : Int) (jn : Int) (nots : Nat) (a b : Nat) (fs : List FFr) (tf : List TFr) (ts : List TeR) (lv : List LeR) (cu : LCu) (it : List (Int × Int)), o + d = 12 →
  (p i t = none → Dys T true (1, i, t, o, (jn, nots, a, b) :: fs, tf, ts, lv, cu, it)) ∧
  (∀ c j u, p i t = some (c, j, u) → ∃ ts' lv' cu' it', Rch T true (1, i, t, o, (jn, nots, a, b) :: fs, tf, ts, lv, cu, it) (2, j, u, o - nots, (jn, 0, a, b + 1) :: fs, tf, ts', lv', cu', it') ∧ SEMI c (ts, lv, it) (ts', lv', it'))
/-- a row of such, to where Q holds -/
def XRUN (T : TkE) (p : P9) (d : Nat) (Q : Nat → Prop) : Prop := ∀ (i t : Nat) (o : Int) (jn : Int) (a b : Nat) (fs : List FFr) (tf : List TFr) (ts : List TeR) (lv : List LeR) (cu : LCu) (it : List (Int × Int)), o + d = 12 →
  (p i t = none → Dys T true (1, i, t, o, (jn, 0, a, b) :: fs, tf, ts, lv, cu, it)) ∧
  (∀ c j u, p i t = some (c, j, u) → ∃ a' b' ts' lv' cu' it', Rch T true (1, i, t, o, (jn, 0, a, b) :: fs, tf, ts, lv, cu, it) (2, j, u, o, (jn, 0, a', b') :: fs, tf, ts', lv', cu', it') ∧ Q j ∧ SEMI c (ts, lv, it) (ts', lv', it'))
theorem ORUN.x {T : TkE} {p : P9} {d : Nat} (h : ORUN T p d) : XRUN T p d (fun _ => True) := by
  intro i t o jn a b fs tf ts lv cu it ho
  obtain ⟨h1, h2⟩ := h i t o jn 0 a b fs tf ts lv cu it ho
  refine ⟨h1, fun c j u e => ?_⟩
  obtain ⟨ts', lv', cu', it', g1, g2⟩ := h2 c j u e
  refine ⟨a, b + 1, ts', lv', cu', it', ?_, trivial, g2⟩
  rw [show o - ((0 : Nat) : Int) = o from by omega] at g1
  exact g1
theorem rrun {T : TkE} {part : P9} {d : Nat} {w op : Int} {Qp : Nat → Prop} (hon : On9 part) (hop : op = 23 ∨ op = 24) (hp : XRUN T part d Qp)
    (hs : ∀ (i t : Nat) (o jn : Int) (a b : Nat) (fs : List FFr) (tf : List TFr) (ts : List TeR) (lv : List LeR) (cu : LCu) (it : List (Int × Int)), Qp i → twd T i w →
      (t < 120 → ∃ a' b', stp9 T true (2, i, t, o, (jn, 0, a, b) :: fs, tf, ts, lv, cu, it) = some (1, i + 1, t + 1, o, (jn, 0, a', b') :: fs, tf, ts, lv, cu, it)) ∧ (¬ t < 120 → stp9 T true (2, i, t, o, (jn, 0, a, b) :: fs, tf, ts, lv, cu, it) = none)) :
    ∀ (M : Nat) (i t : Nat) (o jn : Int) (a b : Nat) (fs : List FFr) (tf : List TFr) (ts : List TeR) (lv : List LeR) (cu : LCu) (it : List (Int × Int)) (x0 : IT9) (c0 : List Int), 121 - t = M → o + d = 12 → Qp i → SEMI c0 x0 (ts, lv, it) →
    (row9 T w op part c0 i t = none → Dys T true (2, i, t, o, (jn, 0, a, b) :: fs, tf, ts, lv, cu, it)) ∧
    (∀ c j u, row9 T w op part c0 i t = some (c, j, u) → ∃ a' b' ts' lv' cu' it', Rch T true (2, i, t, o, (jn, 0, a, b) :: fs, tf, ts, lv, cu, it) (2, j, u, o, (jn, 0, a', b') :: fs, tf, ts', lv', cu', it') ∧ (Qp j ∧ ¬ twd T j w) ∧ SEMI c x0 (ts', lv', it')) := by
  intro M
  induction M using Nat.strongRecOn with
  | _ M ih =>
    intro i t o jn a b fs tf ts lv cu it x0 c0 hM ho hq hS
    by_cases c1 : twd T i w
    · obtain ⟨s1, s2⟩ := hs i t o jn a b fs tf ts lv cu it hq c1
      by_cases c2 : t < 120
      · obtain ⟨a', b', s1⟩ := s1 c2
        have e : row9 T w op part c0 i t = (match part (i + 1) (t + 1) with | none => none | some (g, j, u) => if t < u ∧ u ≤ 120 then row9 T w op part (c0 ++ g ++ [op]) j u else none) := by
          rw [row9, if_pos c1, if_pos c2]; rfl
        obtain ⟨a1, a2⟩ := hp (i + 1) (t + 1) o jn a' b' fs tf ts lv cu it ho
        rw [e]
        cases f : part (i + 1) (t + 1) with
        | none => exact ⟨fun _ => (Rch.st s1).dy (a1 f), fun c j u g => absurd g (by simp)⟩
        | some x =>
          obtain ⟨g, j, u⟩ := x
          obtain ⟨a2', b2', ts', lv', cu', it', b1, b2, b3⟩ := a2 g j u f
          have on := hon _ _ _ _ _ f (by omega)
          have cu9 : t < u ∧ u ≤ 120 := by omega
          show ((if t < u ∧ u ≤ 120 then row9 T w op part (c0 ++ g ++ [op]) j u else none) = none → _) ∧ (∀ c' j' u', (if t < u ∧ u ≤ 120 then row9 T w op part (c0 ++ g ++ [op]) j u else none) = some (c', j', u') → _)
          rw [if_pos cu9]
          obtain ⟨d1, d2⟩ := ih (121 - u) (by omega) j u o jn a2' b2' fs tf ts' lv' cu' it' x0 (c0 ++ g ++ [op]) rfl ho b2 ((hS.app b3).app (semi_op _ (by omega)))
          refine ⟨fun g => ((Rch.st s1).tr b1).dy (d1 g), fun c' j' u' g => ?_⟩
          obtain ⟨a3, b3', t3, l3, u3, i3, g1, g2, g3⟩ := d2 c' j' u' g
          exact ⟨a3, b3', t3, l3, u3, i3, ((Rch.st s1).tr b1).tr g1, g2, g3⟩
      · have e : row9 T w op part c0 i t = none := by rw [row9, if_pos c1, if_neg c2]
        rw [e]
        exact ⟨fun _ => Dys.st (s2 c2), fun c j u g => absurd g (by simp)⟩
    · have e : row9 T w op part c0 i t = some (c0, i, t) := by rw [row9, if_neg c1]
      rw [e]
      refine ⟨fun g => absurd g (by simp), fun c' j' u' g => ?_⟩
      simp only [Option.some.injEq, Prod.mk.injEq] at g
      obtain ⟨rfl, rfl, rfl⟩ := g
      exact ⟨a, b, ts, lv, cu, it, Rch.rf _, ⟨hq, c1⟩, hS⟩
theorem bthrun {T : TkE} {one : P9} {d : Nat} (hon : On9 one) (h : ORUN T one d) : XRUN T (bth9 T one) d (fun j => True ∧ ¬ twd T j 3) := by
  intro i t o jn a b fs tf ts lv cu it ho
  obtain ⟨a1, a2⟩ := h.x i t o jn a b fs tf ts lv cu it ho
  have e : bth9 T one i t = (match one i t with | none => none | some (f, j, u) => row9 T 3 23 one f j u) := rfl
  rw [e]
  cases f : one i t with
  | none => exact ⟨fun _ => a1 f, fun c j u g => absurd g (by simp)⟩
  | some x =>
    obtain ⟨c, j, u⟩ := x
    obtain ⟨a', b', ts', lv', cu', it', b1, b2, b3⟩ := a2 c j u f
    obtain ⟨d1, d2⟩ := rrun (w := 3) (op := 23) hon (Or.inl rfl) h.x (by
      intro i t o jn a b fs tf ts lv cu it _ hw
      refine ⟨fun ht => ⟨a, b, ?_⟩, fun ht => ?_⟩
      · rw [stp_2, maf, if_pos hw, if_pos ht]
      · rw [stp_2, maf, if_pos hw, if_neg ht]) (121 - u) j u o jn a' b' fs tf ts' lv' cu' it' (ts, lv, it) c rfl ho b2 b3
    refine ⟨fun g => b1.dy (d1 g), fun c' j' u' g => ?_⟩
    obtain ⟨a3, b3', t3, l3, u3, i3, g1, g2, g3⟩ := d2 c' j' u' g
    exact ⟨a3, b3', t3, l3, u3, i3, b1.tr g1, g2, g3⟩
theorem sidrun {T : TkE} {one : P9} {d : Nat} (hon : On9 one) (h : ORUN T one d) : XRUN T (sid9 T one) d (fun j => (True ∧ ¬ twd T j 3) ∧ ¬ twd T j 4) := by
  intro i t o jn a b fs tf ts lv cu it ho
  have hb := bthrun hon h
  obtain ⟨a1, a2⟩ := hb i t o jn a b fs tf ts lv cu it ho
  have e : sid9 T one i t = (match bth9 T one i t with | none => none | some (f, j, u) => row9 T 4 24 (bth9 T one) f j u) := rfl
  rw [e]
  cases f : bth9 T one i t with
  | none => exact ⟨fun _ => a1 f, fun c j u g => absurd g (by simp)⟩
  | some x =>
    obtain ⟨c, j, u⟩ := x
    obtain ⟨a', b', ts', lv', cu', it', b1, b2, b3⟩ := a2 c j u f
    obtain ⟨d1, d2⟩ := rrun (w := 4) (op := 24) (bth9_on hon) (Or.inr rfl) hb (by
      intro i t o jn a b fs tf ts lv cu it hq hw
      refine ⟨fun ht => ⟨a + 1, 0, ?_⟩, fun ht => ?_⟩
      · rw [stp_2, maf, if_neg hq.2, if_pos hw, if_pos ht]
      · rw [stp_2, maf, if_neg hq.2, if_pos hw, if_neg ht]) (121 - u) j u o jn a' b' fs tf ts' lv' cu' it' (ts, lv, it) c rfl ho b2 b3
    refine ⟨fun g => b1.dy (d1 g), fun c' j' u' g => ?_⟩
    obtain ⟨a3, b3', t3, l3, u3, i3, g1, g2, g3⟩ := d2 c' j' u' g
    exact ⟨a3, b3', t3, l3, u3, i3, b1.tr g1, g2, g3⟩
/-- a formula up to where nothing of it can follow -/
def WRUN (T : TkE) (p : P9) (d : Nat) : Prop := ∀ (i t : Nat) (o : Int) (fs : List FFr) (tf : List TFr) (ts : List TeR) (lv : List LeR) (cu : LCu) (it : List (Int × Int)), o + d = 12 →
  (p i t = none → Dys T true (1, i, t, o, (0, 0, 0, 0) :: fs, tf, ts, lv, cu, it)) ∧
  (∀ c j u, p i t = some (c, j, u) → ∃ jn a' b' ts' lv' cu' it', Rch T true (1, i, t, o, (0, 0, 0, 0) :: fs, tf, ts, lv, cu, it) (2, j, u, o, (jn, 0, a', b') :: fs, tf, ts', lv', cu', it') ∧ (¬ twd T j 3 ∧ ¬ twd T j 4 ∧ ¬ (jn = 0 ∧ (tsg T j 16 ∨ tsg T j 17))) ∧ SEMI c (ts, lv, it) (ts', lv', it'))
theorem frmrun {T : TkE} {one : P9} {d : Nat} (hon : On9 one) (h : ORUN T one d) : WRUN T (frm9 T one) d := by
  intro i t o fs tf ts lv cu it ho
  have hs := sidrun hon h
  obtain ⟨a1, a2⟩ := hs i t o 0 0 0 fs tf ts lv cu it ho
  have e : frm9 T one i t = (match sid9 T one i t with | none => none | some (f, j, u) => if tsg T j 16 ∨ tsg T j 17 then (if u < 120 then (match sid9 T one (j + 1) (u + 1) with | none => none | some (g, k, x) => some (f ++ g ++ [3 + tV T j], k, x)) else none) else some (f, j, u)) := rfl
  rw [e]
  cases f : sid9 T one i t with
  | none => exact ⟨fun _ => a1 f, fun c j u g => absurd g (by simp)⟩
  | some x =>
    obtain ⟨c, j, u⟩ := x
    obtain ⟨a', b', ts', lv', cu', it', b1, b2, b3⟩ := a2 c j u f
    show ((if tsg T j 16 ∨ tsg T j 17 then _ else _) = none → _) ∧ (∀ c' j' u', (if tsg T j 16 ∨ tsg T j 17 then _ else _) = some (c', j', u') → _)
    by_cases c1 : tsg T j 16 ∨ tsg T j 17
    · rw [if_pos c1]
      by_cases c2 : u < 120
      · rw [if_pos c2]
        have st : Rch T true (2, j, u, o, (0, 0, a', b') :: fs, tf, ts', lv', cu', it') (1, j + 1, u + 1, o, (tV T j, 0, 0, 0) :: fs, tf, ts', lv', cu', it') := Rch.st (by
          rw [stp_2, maf, if_neg b2.1.2, if_neg b2.2, if_pos ⟨rfl, c1⟩, if_pos c2])
        obtain ⟨d1, d2⟩ := hs (j + 1) (u + 1) o (tV T j) 0 0 fs tf ts' lv' cu' it' ho
        cases g9 : sid9 T one (j + 1) (u + 1) with
        | none => exact ⟨fun _ => (b1.tr st).dy (d1 g9), fun c j u g => absurd g (by simp)⟩
        | some y =>
          obtain ⟨g, k, x⟩ := y
          obtain ⟨a3, b3', t3, l3, u3, i3, g1, g2, g3⟩ := d2 g k x g9
          refine ⟨fun g => absurd g (by simp), fun c' j' u' g => ?_⟩
          simp only [Option.some.injEq, Prod.mk.injEq] at g
          obtain ⟨rfl, rfl, rfl⟩ := g
          have hv : tV T j = 16 ∨ tV T j = 17 := c1.imp (fun z => z.2) (fun z => z.2)
          exact ⟨tV T j, a3, b3', t3, l3, u3, i3, (b1.tr st).tr g1, ⟨g2.1.2, g2.2, fun z => by omega⟩, (b3.app g3).app (semi_op _ (by omega))⟩
      · rw [if_neg c2]
        exact ⟨fun _ => b1.dy (Dys.st (by rw [stp_2, maf, if_neg b2.1.2, if_neg b2.2, if_pos ⟨rfl, c1⟩, if_neg c2])), fun c j u g => absurd g (by simp)⟩
    · rw [if_neg c1]
      refine ⟨fun g => absurd g (by simp), fun c' j' u' g => ?_⟩
      simp only [Option.some.injEq, Prod.mk.injEq] at g
      obtain ⟨rfl, rfl, rfl⟩ := g
      exact ⟨0, a', b', ts', lv', cu', it', b1, ⟨b2.1.2, b2.2, fun z => c1 z.2⟩, b3⟩
/-- what no term begins with -/
theorem trm9_bad {T : TkE} {can : Bool} {inner : P9} {i t : Nat} (h1 : ¬ tK T i = 2) (h2 : ¬ tsg T i 9) (h3 : ¬ tsg T i 3) (h4 : ¬ (tK T i = 4 ∧ 8 ≤ tV T i ∧ tV T i ≤ 12)) (h5 : tK T i = 3 → ¬ 0 ≤ tvr T (tN T i)) : trm9 T can inner i t = none := by
  have e : fac9 T can inner i t = none := by
    unfold fac9
    by_cases c : tK T i = 3
    · rw [if_pos c, if_neg (fun q => h5 c q.1)]
    · rw [if_neg c, if_neg h3, if_neg h4]
  rw [trm9, if_neg h2, par9, if_neg h1, e]
theorem trmD_eq (T : TkE) (d : Nat) : ∃ can inner, trmD T d = trm9 T can inner := by
  cases d with
  | zero => exact ⟨_, _, rfl⟩
  | succ d => exact ⟨_, _, rfl⟩
/-- a leaf's first term is read -/
theorem lrun {T : TkE} {d : Nat} (i t : Nat) {o : Int} (ho : o + d = 12) (jn : Int) (nots : Nat) (a b : Nat) (fs : List FFr) (tf : List TFr) (ts : List TeR) (lv : List LeR) (it : List (Int × Int)) :
    ((match trmD T d i t with | none => none | some (f, j, u) => if tK T j = 5 ∧ isCmp (tV T j) ∧ u < 120 then (match trmD T d (j + 1) (u + 1) with | none => none | some (c, k, x) => some (f ++ c ++ [3 + tV T j], k, x)) else none) = (none : Option (List Int × Nat × Nat)) → Dys T true (3, i, t, o, (jn, nots, a, b) :: fs, (21, [], 1, 1, -1) :: tf, ts, lv, (0, 0, -1, ts.length), it)) ∧
    (∀ c j u, (match trmD T d i t with | none => none | some (f, j, u) => if tK T j = 5 ∧ isCmp (tV T j) ∧ u < 120 then (match trmD T d (j + 1) (u + 1) with | none => none | some (c, k, x) => some (f ++ c ++ [3 + tV T j], k, x)) else none) = some (c, j, u) → ∃ ts' lv' cu' it', Rch T true (3, i, t, o, (jn, nots, a, b) :: fs, (21, [], 1, 1, -1) :: tf, ts, lv, (0, 0, -1, ts.length), it) (2, j, u, o - nots, (jn, 0, a, b + 1) :: fs, tf, ts', lv', cu', it') ∧ SEMI c (ts, lv, it) (ts', lv', it')) := by
  obtain ⟨a1, a2⟩ := trunD T d i t o ((jn, nots, a, b) :: fs) 21 (-1) tf ts lv (0, 0, -1, ts.length) it ho
  cases f : trmD T d i t with
  | none => exact ⟨fun _ => a1 f, fun c j u g => absurd g (by simp)⟩
  | some x =>
    obtain ⟨c, j, u⟩ := x
    obtain ⟨ps, s, m, t1, c0, rfl, b1, b2, b3⟩ := a2 c j u f
    show ((if tK T j = 5 ∧ isCmp (tV T j) ∧ u < 120 then _ else _) = none → _) ∧ (∀ c' j' u', (if tK T j = 5 ∧ isCmp (tV T j) ∧ u < 120 then _ else _) = some (c', j', u') → _)
    by_cases c1 : tK T j = 5 ∧ isCmp (tV T j) ∧ u < 120
    · rw [if_pos c1]
      have st : Rch T true (6, j, u, o, (jn, nots, a, b) :: fs, (21, ps, s, m, -1) :: tf, t1, lv, (0, 0, -1, ts.length), it) (3, j + 1, u + 1, o, (jn, nots, a, b) :: fs, (21, [], 1, 1, -1) :: tf, t1 ++ [(30, 0, 0, ps)], lv, (tV T j, 0, (t1.length : Int), ts.length), it) := Rch.st (by
        rw [stp_6 b2, mEnd, if_pos rfl, if_pos rfl, if_pos c1])
      obtain ⟨d1, d2⟩ := trunD T d (j + 1) (u + 1) o ((jn, nots, a, b) :: fs) 21 (-1) tf (t1 ++ [(30, 0, 0, ps)]) lv (tV T j, 0, (t1.length : Int), ts.length) it ho
      cases g9 : trmD T d (j + 1) (u + 1) with
      | none => exact ⟨fun _ => (b1.tr st).dy (d1 g9), fun c j u g => absurd g (by simp)⟩
      | some y =>
        obtain ⟨c2, k, x⟩ := y
        obtain ⟨qs, s2, m2, t2, c3, rfl, e1, e2, e3⟩ := d2 c2 k x g9
        refine ⟨fun g => absurd g (by simp), fun c' j' u' g => ?_⟩
        simp only [Option.some.injEq, Prod.mk.injEq] at g
        obtain ⟨rfl, rfl, rfl⟩ := g
        have hc : isCmp (tV T j) := c1.2.1
        refine ⟨t2 ++ [(30, 0, 0, qs)], lv ++ [(tV T j, 0, (t1.length : Int), (t2.length : Int), ts.length, t2.length + 1)], (tV T j, 0, (t1.length : Int), ts.length), it ++ [(21, (lv.length : Int))], ((b1.tr st).tr e1).tr (Rch.st ?_), SEMI.one (Or.inl ⟨(tV T j, 0, (t1.length : Int), (t2.length : Int), ts.length, t2.length + 1), ⟨?_, Or.inr ⟨hc, _, _, _, rfl, semf_sum b3, semf_sum e3⟩⟩, rfl, rfl⟩)⟩
        · rw [stp_6 e2, mEnd, if_pos rfl]
          simp only [endO]
          rw [if_neg (by omega), if_neg (by omega), if_neg (by omega)]
        · show (ts.length, t2.length + 1) = (ts.length, (t2 ++ [(30, 0, 0, qs)]).length)
          rw [List.length_append]; rfl
    · rw [if_neg c1]
      refine ⟨fun _ => b1.dy (Dys.st ?_), fun c j u g => absurd g (by simp)⟩
      rw [stp_6 b2, mEnd, if_pos rfl, if_pos rfl, if_neg c1]
theorem onerun {T : TkE} {can : Bool} {inner whole : P9} {d : Nat} (hdj : ∀ x, 0 ≤ tvr T x → ¬ 0 ≤ tcl T x) (hc : can = true ↔ 0 < d) (hI : can = true → ORUN T inner (d - 1)) (hW : can = true → WRUN T whole (d - 1)) : ORUN T (one9 T can inner whole (trmD T d)) d := by
  intro i t o jn nots a b fs tf ts lv cu it ho
  unfold one9
  by_cases c1 : twd T i 5
  · rw [if_pos c1]
    by_cases c2 : t < 120 ∧ o < 12
    · have ec : can = true := hc.mpr (by omega)
      subst ec
      rw [if_pos ⟨c2.1, rfl⟩]
      have st : Rch T true (1, i, t, o, (jn, nots, a, b) :: fs, tf, ts, lv, cu, it) (1, i + 1, t + 1, o + 1, (jn, nots + 1, a, b) :: fs, tf, ts, lv, cu, it) := Rch.st (by rw [stp_1, mOne, if_pos c1, if_pos c2])
      obtain ⟨a1, a2⟩ := hI rfl (i + 1) (t + 1) (o + 1) jn (nots + 1) a b fs tf ts lv cu it (by have := hc.mp rfl; omega)
      cases f : inner (i + 1) (t + 1) with
      | none => exact ⟨fun _ => st.dy (a1 f), fun c j u g => absurd g (by simp)⟩
      | some x =>
        obtain ⟨c, j, u⟩ := x
        obtain ⟨t1, l1, u1, i1, b1, b2⟩ := a2 c j u f
        refine ⟨fun g => absurd g (by simp), fun c' j' u' g => ?_⟩
        simp only [Option.some.injEq, Prod.mk.injEq] at g
        obtain ⟨rfl, rfl, rfl⟩ := g
        rw [show o + 1 - ((nots + 1 : Nat) : Int) = o - nots from by omega] at b1
        exact ⟨t1, l1, u1, i1, st.tr b1, b2.app (semi_op _ (by decide))⟩
    · rw [if_neg (fun q => c2 ⟨q.1, by have := hc.mp q.2; omega⟩)]
      exact ⟨fun _ => Dys.st (by rw [stp_1, mOne, if_pos c1, if_neg c2]), fun c j u g => absurd g (by simp)⟩
  · rw [if_neg c1]
    by_cases c2 : tsg T i 1
    · rw [if_pos c2]
      by_cases c3 : t < 120 ∧ o < 12
      · have ec : can = true := hc.mpr (by omega)
        subst ec
        rw [if_pos ⟨c3.1, rfl⟩]
        have st : Rch T true (1, i, t, o, (jn, nots, a, b) :: fs, tf, ts, lv, cu, it) (1, i + 1, t + 1, o + 1, (0, 0, 0, 0) :: (jn, nots, a, b) :: fs, tf, ts, lv, cu, it) := Rch.st (by rw [stp_1, mOne, if_neg c1, if_pos c2, if_pos c3])
        obtain ⟨a1, a2⟩ := hW rfl (i + 1) (t + 1) (o + 1) ((jn, nots, a, b) :: fs) tf ts lv cu it (by have := hc.mp rfl; omega)
        cases f : whole (i + 1) (t + 1) with
        | none => exact ⟨fun _ => st.dy (a1 f), fun c j u g => absurd g (by simp)⟩
        | some x =>
          obtain ⟨c, j, u⟩ := x
          obtain ⟨jn1, a', b', t1, l1, u1, i1, b1, b2, b3⟩ := a2 c j u f
          show ((if tsg T j 2 ∧ u < 120 then _ else _) = none → _) ∧ (∀ c' j' u', (if tsg T j 2 ∧ u < 120 then _ else _) = some (c', j', u') → _)
          by_cases c4 : tsg T j 2 ∧ u < 120
          · rw [if_pos c4]
            refine ⟨fun g => absurd g (by simp), fun c' j' u' g => ?_⟩
            simp only [Option.some.injEq, Prod.mk.injEq] at g
            obtain ⟨rfl, rfl, rfl⟩ := g
            refine ⟨t1, l1, u1, i1, (st.tr b1).tr (Rch.st ?_), b3⟩
            rw [stp_2, maf_2, if_neg b2.1, if_neg b2.2.1, if_neg b2.2.2, if_pos c4, Int.add_sub_cancel]; rfl
          · rw [if_neg c4]
            refine ⟨fun _ => (st.tr b1).dy (Dys.st ?_), fun c j u g => absurd g (by simp)⟩
            rw [stp_2, maf_2, if_neg b2.1, if_neg b2.2.1, if_neg b2.2.2, if_neg c4]
      · rw [if_neg (fun q => c3 ⟨q.1, by have := hc.mp q.2; omega⟩)]
        exact ⟨fun _ => Dys.st (by rw [stp_1, mOne, if_neg c1, if_pos c2, if_neg c3]), fun c j u g => absurd g (by simp)⟩
    · rw [if_neg c2]
      have tf9 : ∀ (op : Int), 26 ≤ op ∧ op ≤ 27 → (twd T i 6 ∨ twd T i 7) →
          ((if t < 120 then some ([op], i + 1, t + 1) else none) = (none : Option (List Int × Nat × Nat)) → Dys T true (1, i, t, o, (jn, nots, a, b) :: fs, tf, ts, lv, cu, it)) ∧
          (∀ c j u, (if t < 120 then some ([op], i + 1, t + 1) else none) = some (c, j, u) → ∃ ts' lv' cu' it', Rch T true (1, i, t, o, (jn, nots, a, b) :: fs, tf, ts, lv, cu, it) (2, j, u, o - nots, (jn, 0, a, b + 1) :: fs, tf, ts', lv', cu', it') ∧ SEMI c (ts, lv, it) (ts', lv', it')) := by
        intro op hop hw
        by_cases c3 : t < 120
        · rw [if_pos c3]
          refine ⟨fun g => absurd g (by simp), fun c' j' u' g => ?_⟩
          simp only [Option.some.injEq, Prod.mk.injEq] at g
          obtain ⟨rfl, rfl, rfl⟩ := g
          exact ⟨ts, lv, cu, it, Rch.st (by rw [stp_1, mOne, if_neg c1, if_neg c2, if_pos hw, if_pos c3]; rfl), semi_op _ (by omega)⟩
        · rw [if_neg c3]
          exact ⟨fun _ => Dys.st (by rw [stp_1, mOne, if_neg c1, if_neg c2, if_pos hw, if_neg c3]), fun c j u g => absurd g (by simp)⟩
      by_cases c3 : twd T i 6
      · rw [if_pos c3]; exact tf9 26 (by decide) (Or.inl c3)
      · rw [if_neg c3]
        by_cases c4 : twd T i 7
        · rw [if_pos c4]; exact tf9 27 (by decide) (Or.inr c4)
        · rw [if_neg c4]
          have c34 : ¬ (twd T i 6 ∨ twd T i 7) := fun q => q.elim c3 c4
          by_cases c5 : tK T i = 3 ∧ 0 ≤ tcl T (tN T i)
          · rw [if_pos c5]
            have c6 : ¬ 0 ≤ tvr T (tN T i) := fun q => hdj _ q c5.2
            by_cases c7 : t < 120
            · rw [if_pos c7]
              refine ⟨fun g => absurd g (by simp), fun c' j' u' g => ?_⟩
              simp only [Option.some.injEq, Prod.mk.injEq] at g
              obtain ⟨rfl, rfl, rfl⟩ := g
              exact ⟨ts, lv, cu, it ++ [(20, tcl T (tN T i))], Rch.st (by rw [stp_1, mOne, if_neg c1, if_neg c2, if_neg c34, if_pos c5.1, if_neg c6, if_pos ⟨c5.2, c7⟩]; rfl), SEMI.one (Or.inr (Or.inl ⟨_, c5.2, rfl, rfl, rfl, rfl⟩))⟩
            · rw [if_neg c7]
              exact ⟨fun _ => Dys.st (by rw [stp_1, mOne, if_neg c1, if_neg c2, if_neg c34, if_pos c5.1, if_neg c6, if_neg (fun q => c7 q.2)]), fun c j u g => absurd g (by simp)⟩
          · rw [if_neg c5]
            by_cases c6 : tK T i = 2 ∧ twd T (i + 1) 13
            · rw [if_pos c6]
              by_cases c7 : t + 1 < 120 ∧ 2 ≤ tV T i ∧ tV T i ≤ 12
              · rw [if_pos c7]
                have st : Rch T true (1, i, t, o, (jn, nots, a, b) :: fs, tf, ts, lv, cu, it) (3, i + 2, t + 2, o, (jn, nots, a, b) :: fs, (21, [], 1, 1, -1) :: tf, ts, lv, (50, tV T i, -1, ts.length), it) := Rch.st (by
                  rw [stp_1, mOne, if_neg c1, if_neg c2, if_neg c34, if_neg (by omega), if_pos c6, if_pos c7])
                obtain ⟨a1, a2⟩ := trunD T d (i + 2) (t + 2) o ((jn, nots, a, b) :: fs) 21 (-1) tf ts lv (50, tV T i, -1, ts.length) it ho
                cases f : trmD T d (i + 2) (t + 2) with
                | none => exact ⟨fun _ => st.dy (a1 f), fun c j u g => absurd g (by simp)⟩
                | some x =>
                  obtain ⟨c, j, u⟩ := x
                  obtain ⟨ps, s, m, t1, c0, rfl, b1, b2, b3⟩ := a2 c j u f
                  refine ⟨fun g => absurd g (by simp), fun c' j' u' g => ?_⟩
                  simp only [Option.some.injEq, Prod.mk.injEq] at g
                  obtain ⟨rfl, rfl, rfl⟩ := g
                  refine ⟨t1 ++ [(30, 0, 0, ps)], lv ++ [(50, tV T i, (t1.length : Int), -1, ts.length, t1.length + 1)], (50, tV T i, -1, ts.length), it ++ [(21, (lv.length : Int))], (st.tr b1).tr (Rch.st ?_), SEMI.one (Or.inl ⟨(50, tV T i, (t1.length : Int), -1, ts.length, t1.length + 1), ⟨?_, Or.inl ⟨rfl, c7.2.1, c7.2.2, _, rfl, semf_sum b3⟩⟩, rfl, rfl⟩)⟩
                  · rw [stp_6 b2, mEnd, if_pos rfl]
                    simp only [endO]
                    rw [if_neg (by decide), if_pos trivial, if_pos trivial]
                  · show (ts.length, t1.length + 1) = (ts.length, (t1 ++ [(30, 0, 0, ps)]).length)
                    rw [List.length_append]; rfl
              · rw [if_neg c7]
                exact ⟨fun _ => Dys.st (by rw [stp_1, mOne, if_neg c1, if_neg c2, if_neg c34, if_neg (by omega), if_pos c6, if_neg c7]), fun c j u g => absurd g (by simp)⟩
            · rw [if_neg c6]
              by_cases c7 : tK T i = 3
              · by_cases c8 : 0 ≤ tvr T (tN T i)
                · have st : Rch T true (1, i, t, o, (jn, nots, a, b) :: fs, tf, ts, lv, cu, it) (3, i, t, o, (jn, nots, a, b) :: fs, (21, [], 1, 1, -1) :: tf, ts, lv, (0, 0, -1, ts.length), it) := Rch.st (by
                    rw [stp_1, mOne, if_neg c1, if_neg c2, if_neg c34, if_pos c7, if_pos c8])
                  obtain ⟨a1, a2⟩ := lrun i t ho jn nots a b fs tf ts lv it (d := d) (T := T)
                  refine ⟨fun g => st.dy (a1 g), fun c' j' u' g => ?_⟩
                  obtain ⟨t1, l1, u1, i1, b1, b2⟩ := a2 c' j' u' g
                  exact ⟨t1, l1, u1, i1, st.tr b1, b2⟩
                · obtain ⟨cn, inn, e9⟩ := trmD_eq T d
                  rw [e9, trm9_bad (by omega) (fun q => by have := q.1; omega) (fun q => by have := q.1; omega) (by omega) (fun _ => c8)]
                  exact ⟨fun _ => Dys.st (by rw [stp_1, mOne, if_neg c1, if_neg c2, if_neg c34, if_pos c7, if_neg c8, if_neg (fun q => c5 ⟨c7, q.1⟩)]), fun c j u g => absurd g (by simp)⟩
              · by_cases c8 : tK T i = 2 ∨ tsg T i 9 ∨ tsg T i 3 ∨ (tK T i = 4 ∧ 8 ≤ tV T i ∧ tV T i ≤ 12)
                · have st : Rch T true (1, i, t, o, (jn, nots, a, b) :: fs, tf, ts, lv, cu, it) (3, i, t, o, (jn, nots, a, b) :: fs, (21, [], 1, 1, -1) :: tf, ts, lv, (0, 0, -1, ts.length), it) := Rch.st (by
                    rw [stp_1, mOne, if_neg c1, if_neg c2, if_neg c34, if_neg c7, if_neg c6, if_pos c8])
                  obtain ⟨a1, a2⟩ := lrun i t ho jn nots a b fs tf ts lv it (d := d) (T := T)
                  refine ⟨fun g => st.dy (a1 g), fun c' j' u' g => ?_⟩
                  obtain ⟨t1, l1, u1, i1, b1, b2⟩ := a2 c' j' u' g
                  exact ⟨t1, l1, u1, i1, st.tr b1, b2⟩
                · obtain ⟨cn, inn, e9⟩ := trmD_eq T d
                  rw [e9, trm9_bad (fun q => c8 (Or.inl q)) (fun q => c8 (Or.inr (Or.inl q))) (fun q => c8 (Or.inr (Or.inr (Or.inl q)))) (fun q => c8 (Or.inr (Or.inr (Or.inr q)))) (fun q => absurd q c7)]
                  exact ⟨fun _ => Dys.st (by rw [stp_1, mOne, if_neg c1, if_neg c2, if_neg c34, if_neg c7, if_neg c6, if_neg c8]), fun c j u g => absurd g (by simp)⟩
theorem orunD {T : TkE} (hdj : ∀ x, 0 ≤ tvr T x → ¬ 0 ≤ tcl T x) : ∀ d, ORUN T (oneD T d) d
  | 0 => onerun hdj ⟨fun h => absurd h (by decide), fun h => absurd h (by decide)⟩ (fun h => absurd h (by decide)) (fun h => absurd h (by decide))
  | d + 1 => onerun hdj ⟨fun _ => Nat.succ_pos d, fun _ => rfl⟩ (fun _ => orunD hdj d) (fun _ => frmrun (oneD_on T d) (orunD hdj d))
/-- a formula from its first token to its end -/
theorem formrun {T : TkE} (hdj : ∀ x, 0 ≤ tvr T x → ¬ 0 ≤ tcl T x) (i : Nat) (cu : LCu) :
    (frmD T 12 i 0 = none → Dys T true (1, i, 0, 0, [(0, 0, 0, 0)], [], [], [], cu, [])) ∧
    (∀ c j u, frmD T 12 i 0 = some (c, j, u) → ∃ jn ts lv cu' it, Rch T true (1, i, 0, 0, [(0, 0, 0, 0)], [], [], [], cu, []) (7, j, u, 0, [(jn, 0, 0, 0)], [], ts, lv, cu', it) ∧ SEMI c ([], [], []) (ts, lv, it)) := by
  obtain ⟨a1, a2⟩ := frmrun (oneD_on T 12) (orunD hdj 12) i 0 0 [] [] [] [] cu [] (by decide)
  refine ⟨a1, fun c j u g => ?_⟩
  obtain ⟨jn, a', b', t1, l1, u1, i1, b1, b2, b3⟩ := a2 c j u g
  refine ⟨jn, t1, l1, u1, i1, b1.tr (Rch.st ?_), b3⟩
  rw [stp_2, maf_1, if_neg b2.1, if_neg b2.2.1, if_neg b2.2.2]
