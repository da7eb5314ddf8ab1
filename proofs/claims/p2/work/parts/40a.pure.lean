-- ===== texts: how they fall into tokens =====
def lx_bl (c : Int) : Bool := decide (c = 32) || decide (c = 10)
def lx_le (c : Int) : Bool := decide (97 ≤ c ∧ c ≤ 122) || decide (65 ≤ c ∧ c ≤ 90)
def lx_dg (c : Int) : Bool := decide (48 ≤ c ∧ c ≤ 57)
def lx_ld (c : Int) : Bool := lx_le c || lx_dg c
theorem lx_bl_iff {c : Int} : lx_bl c = true ↔ c = 32 ∨ c = 10 := by simp [lx_bl]
theorem lx_le_iff {c : Int} : lx_le c = true ↔ (97 ≤ c ∧ c ≤ 122) ∨ (65 ≤ c ∧ c ≤ 90) := by simp [lx_le]
theorem lx_dg_iff {c : Int} : lx_dg c = true ↔ 48 ≤ c ∧ c ≤ 57 := by simp [lx_dg]
theorem lx_ld_iff {c : Int} : lx_ld c = true ↔ ((97 ≤ c ∧ c ≤ 122) ∨ (65 ≤ c ∧ c ≤ 90)) ∨ (48 ≤ c ∧ c ≤ 57) := by simp [lx_ld, lx_le_iff, lx_dg_iff]
/-- where a row of bytes of a kind ends -/
def lx_run (P : Int → Bool) (b : Nat → Int) (n : Nat) (i : Nat) : Nat := if i < n ∧ P (b i) = true then lx_run P b n (i + 1) else i
termination_by n - i
theorem lx_go {P : Int → Bool} {b : Nat → Int} {n i : Nat} (h : i < n) (hP : P (b i) = true) : lx_run P b n (i + 1) = lx_run P b n i := by
  rw [lx_run.eq_1 P b n i, if_pos ⟨h, hP⟩]
theorem lx_stop {P : Int → Bool} {b : Nat → Int} {n i : Nat} (h : ¬ (i < n ∧ P (b i) = true)) : lx_run P b n i = i := by
  rw [lx_run, if_neg h]
theorem lx_ge (P : Int → Bool) (b : Nat → Int) (n i : Nat) : i ≤ lx_run P b n i := by
  have key : ∀ m i, n - i = m → i ≤ lx_run P b n i := by
    intro m
    induction m using Nat.strongRecOn with
    | _ m ih =>
      intro i hm
      by_cases c : i < n ∧ P (b i) = true
      · rw [← lx_go c.1 c.2]
        have := ih (n - (i + 1)) (by omega) (i + 1) rfl
        omega
      · rw [lx_stop c]; exact Nat.le_refl _
  exact key _ i rfl
theorem lx_up (P : Int → Bool) (b : Nat → Int) {n i : Nat} (h : i ≤ n) : lx_run P b n i ≤ n := by
  have key : ∀ m i, n - i = m → i ≤ n → lx_run P b n i ≤ n := by
    intro m
    induction m using Nat.strongRecOn with
    | _ m ih =>
      intro i hm hi
      by_cases c : i < n ∧ P (b i) = true
      · rw [← lx_go c.1 c.2]
        exact ih (n - (i + 1)) (by omega) (i + 1) rfl (by omega)
      · rw [lx_stop c]; exact hi
  exact key _ i rfl h
theorem lx_at (P : Int → Bool) (b : Nat → Int) (n i : Nat) : ¬ (lx_run P b n i < n ∧ P (b (lx_run P b n i)) = true) := by
  have key : ∀ m i, n - i = m → ¬ (lx_run P b n i < n ∧ P (b (lx_run P b n i)) = true) := by
    intro m
    induction m using Nat.strongRecOn with
    | _ m ih =>
      intro i hm
      by_cases c : i < n ∧ P (b i) = true
      · rw [← lx_go c.1 c.2]
        exact ih (n - (i + 1)) (by omega) (i + 1) rfl
      · rw [lx_stop c]; exact c
  exact key _ i rfl
theorem lx_in (P : Int → Bool) (b : Nat → Int) (n i : Nat) : ∀ k, i ≤ k → k < lx_run P b n i → P (b k) = true := by
  have key : ∀ m i, n - i = m → ∀ k, i ≤ k → k < lx_run P b n i → P (b k) = true := by
    intro m
    induction m using Nat.strongRecOn with
    | _ m ih =>
      intro i hm k h1 h2
      by_cases c : i < n ∧ P (b i) = true
      · rw [← lx_go c.1 c.2] at h2
        by_cases e : k = i
        · rw [e]; exact c.2
        · exact ih (n - (i + 1)) (by omega) (i + 1) rfl k (by omega) h2
      · rw [lx_stop c] at h2; omega
  exact key _ i rfl
/-- bytes as one number, the first one highest; digits as one -/
def lx_nm (b : Nat → Int) (i : Nat) : Nat → Int
  | 0 => 0
  | k + 1 => 256 * lx_nm b i k + b (i + k)
def lx_dec (b : Nat → Int) (i : Nat) : Nat → Int
  | 0 => 0
  | k + 1 => 10 * lx_dec b i k + (b (i + k) - 48)
theorem lx_nm_bd (b : Nat → Int) (i : Nat) : ∀ k, (∀ j, j < k → 0 ≤ b (i + j) ∧ b (i + j) < 128) → 0 ≤ lx_nm b i k ∧ 2 * lx_nm b i k < 256 ^ k
  | 0, _ => by simp [lx_nm]
  | k + 1, h => by
    have a := lx_nm_bd b i k (fun j hj => h j (by omega))
    have c := h k (by omega)
    simp only [lx_nm, Int.pow_succ]
    omega
theorem lx_dec_bd (b : Nat → Int) (i : Nat) : ∀ k, (∀ j, j < k → lx_dg (b (i + j)) = true) → 0 ≤ lx_dec b i k ∧ lx_dec b i k < 10 ^ k
  | 0, _ => by simp [lx_dec]
  | k + 1, h => by
    have a := lx_dec_bd b i k (fun j hj => h j (by omega))
    have c := lx_dg_iff.mp (h k (by omega))
    simp only [lx_dec, Int.pow_succ]
    omega
theorem lx_nm_inj (b c : Nat → Int) (i j : Nat) : ∀ k l, (∀ q, q < k → 0 < b (i + q) ∧ b (i + q) < 256) → (∀ q, q < l → 0 < c (j + q) ∧ c (j + q) < 256) → lx_nm b i k = lx_nm c j l → k = l ∧ ∀ q, q < k → b (i + q) = c (j + q)
  | 0, 0, _, _, _ => ⟨rfl, fun q hq => absurd hq (Nat.not_lt_zero q)⟩
  | 0, l + 1, _, h2, e => by
    exfalso
    have n0 : ∀ l, (∀ q, q < l → 0 < c (j + q) ∧ c (j + q) < 256) → 0 ≤ lx_nm c j l := by
      intro l
      induction l with
      | zero => intro _; simp [lx_nm]
      | succ l ih => intro h; have := ih (fun q hq => h q (by omega)); have := h l (by omega); simp only [lx_nm]; omega
    have a := n0 l (fun q hq => h2 q (by omega))
    have b := h2 l (by omega)
    simp only [lx_nm] at e
    omega
  | k + 1, 0, h1, _, e => by
    exfalso
    have n0 : ∀ l, (∀ q, q < l → 0 < b (i + q) ∧ b (i + q) < 256) → 0 ≤ lx_nm b i l := by
      intro l
      induction l with
      | zero => intro _; simp [lx_nm]
      | succ l ih => intro h; have := ih (fun q hq => h q (by omega)); have := h l (by omega); simp only [lx_nm]; omega
    have a := n0 k (fun q hq => h1 q (by omega))
    have b := h1 k (by omega)
    simp only [lx_nm] at e
    omega
  | k + 1, l + 1, h1, h2, e => by
    simp only [lx_nm] at e
    have a1 := h1 k (by omega)
    have a2 := h2 l (by omega)
    have e1 : lx_nm b i k = lx_nm c j l := by omega
    have e2 : b (i + k) = c (j + l) := by omega
    obtain ⟨r1, r2⟩ := lx_nm_inj b c i j k l (fun q hq => h1 q (by omega)) (fun q hq => h2 q (by omega)) e1
    subst r1
    refine ⟨rfl, fun q hq => ?_⟩
    by_cases g : q = k
    · rw [g]; exact e2
    · exact r2 q (by omega)
theorem lx_nm_congr (b c : Nat → Int) (i j : Nat) : ∀ k, (∀ q, q < k → b (i + q) = c (j + q)) → lx_nm b i k = lx_nm c j k
  | 0, _ => rfl
  | k + 1, h => by
    simp only [lx_nm]
    rw [lx_nm_congr b c i j k (fun q hq => h q (by omega)), h k (by omega)]
def lx_one (c : Int) : Int := if c = 40 then 1 else if c = 41 then 2 else if c = 91 then 3 else if c = 93 then 4 else if c = 44 then 5 else if c = 59 then 6 else if c = 61 then 7 else if c = 43 then 8 else if c = 45 then 9 else if c = 42 then 10 else if c = 60 then 11 else if c = 62 then 12 else 0
def lx_two (c d : Int) : Int := if c = 45 then (if d = 62 then 16 else 0) else if d = 61 then (if c = 60 then 13 else if c = 62 then 14 else if c = 33 then 15 else if c = 61 then 17 else 0) else 0
def lx_wl : List Int := [7758194, 427020085613, 6385252, 28530, 7237492, 1953658213, 439721161573, 6382195, 7170414, 7168376, 6580598, 7171940, 28263454966310259, 26982]
def lx_find (x : Int) : List Int → Int → Int
  | [], _ => 0
  | a :: t, k => if a = x then k else lx_find x t (k + 1)
def lx_word (x : Int) : Int := lx_find x lx_wl 1
/-- the token that begins at a place: where it ends, its kind (1 none, 2 a number, 3 a name, 4 a word, 5 a sign), its number -/
def lx_end (b : Nat → Int) (n p : Nat) : Nat := if lx_le (b p) = true then lx_run lx_ld b n p else if lx_dg (b p) = true then lx_run lx_dg b n p else if 0 < lx_two (b p) (b (p + 1)) then p + 2 else p + 1
def lx_kind (b : Nat → Int) (n p : Nat) : Int := if lx_le (b p) = true then (if 8 < lx_run lx_ld b n p - p then 1 else if 0 < lx_word (lx_nm b p (lx_run lx_ld b n p - p)) then 4 else 3) else if lx_dg (b p) = true then (if 6 < lx_run lx_dg b n p - p ∨ lx_le (b (lx_run lx_dg b n p)) = true then 1 else 2) else if 0 < lx_two (b p) (b (p + 1)) then 5 else if 0 < lx_one (b p) then 5 else 1
def lx_val (b : Nat → Int) (n p : Nat) : Int := if lx_le (b p) = true then (if 8 < lx_run lx_ld b n p - p then 0 else lx_word (lx_nm b p (lx_run lx_ld b n p - p))) else if lx_dg (b p) = true then lx_dec b p (lx_run lx_dg b n p - p) else if 0 < lx_two (b p) (b (p + 1)) then lx_two (b p) (b (p + 1)) else lx_one (b p)
def lx_name (b : Nat → Int) (n p : Nat) : Int := lx_nm b p (lx_end b n p - p)
/-- where tokens begin -/
def lx_pos (b : Nat → Int) (n : Nat) : Nat → Nat
  | 0 => lx_run lx_bl b n 0
  | k + 1 => lx_run lx_bl b n (lx_end b n (lx_pos b n k))
/-- so many tokens there are, the one that is none being the last -/
def LXM (b : Nat → Int) (n m : Nat) : Prop := (∀ k, k < m → lx_pos b n k < n) ∧ (∀ k, k + 1 < m → ¬ lx_kind b n (lx_pos b n k) = 1) ∧ (n ≤ lx_pos b n m ∨ (0 < m ∧ lx_kind b n (lx_pos b n (m - 1)) = 1))
theorem LXM_uniq {b : Nat → Int} {n m m' : Nat} (h : LXM b n m) (h' : LXM b n m') : m = m' := by
  have key : ∀ {m m' : Nat}, LXM b n m → LXM b n m' → ¬ m < m' := fun {m m'} h h' c => by
    rcases h.2.2 with e | ⟨e, f⟩
    · have := h'.1 m c; omega
    · exact h'.2.1 (m - 1) (by omega) f
  have a := key h h'
  have c := key h' h
  omega
/-- kinds as the class counts them -/
def lx_kc (k v : Int) : Int := if k = 0 then 0 else if k = 1 then 3 else if k = 2 then 2 else if k = 3 then 1 else if k = 4 then 20 + v else 3 + v
/-- what stands at place k, the end behind the last one -/
def lx_K (b : Nat → Int) (n m k : Nat) : Int := if k < m then lx_kind b n (lx_pos b n k) else 0
def lx_V (b : Nat → Int) (n m k : Nat) : Int := if k < m then lx_val b n (lx_pos b n k) else 0
def lx_N (b : Nat → Int) (n m k : Nat) : Int := if k < m then lx_name b n (lx_pos b n k) else 0
