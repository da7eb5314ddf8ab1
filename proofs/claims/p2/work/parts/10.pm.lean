def layL : List (Nat × Nat) := [(0, 11), (4, 2000), (0, 1), (4, 25600), (3, 101), (4, 256), (4, 24800), (0, 2), (2, 4), (2, 24), (1, 3120), (1, 13312), (1, 26624), (1, 260), (1, 624), (1, 3840), (1, 32), (4, 1200), (0, 3), (2, 20), (1, 2001), (1, 2001), (1, 2001), (2, 2001), (4, 0), (0, 4), (2, 1920), (1, 8), (1, 6), (2, 5), (0, 8), (0, 6), (1, 32), (1, 640), (3, 32), (1, 512), (1, 32), (1, 96000), (1, 48000), (1, 48000), (1, 8192), (0, 0), (2, 4), (2, 4), (1, 3000), (1, 3000), (2, 16), (2, 3000), (2, 3000), (1, 24), (2, 1100), (0, 5), (1, 3000), (1, 3000), (1, 3000), (1, 8192), (1, 3000), (1, 3000), (1, 48000), (1, 3000), (0, 9), (2, 2400), (2, 4), (1, 4), (2, 16), (2, 4), (2, 4), (2, 4), (2, 10), (0, 10), (1, 256), (1, 256), (1, 256), (2, 256), (2, 4), (0, 7), (2, 1000), (3, 200), (2, 5), (1, 4), (1, 20), (1, 20), (1, 20), (3, 20), (0, 12), (1, 4000), (3, 20), (1, 20), (2, 20), (1, 20), (3, 201), (2, 201), (2, 804), (1, 4), (2, 16), (2, 4), (1, 104), (2, 58240), (2, 232960), (2, 10), (2, 4), (2, 4), (2, 16), (1, 4), (2, 600), (2, 2400), (1, 3000), (1, 48000), (1, 3000), (1, 3000), (1, 3000), (1, 24), (1, 3000), (3, 3000), (2, 3000), (1, 3000), (2, 3000), (2, 4), (2, 4), (1, 3000), (1, 4096), (1, 4096), (3, 24), (1, 3000), (1, 3000), (1, 32), (1, 3000), (1, 32768), (1, 48000), (1, 96000), (3, 6500), (3, 26), (3, 700), (3, 26), (1, 624), (1, 700), (1, 700), (1, 2800), (1, 130), (1, 600), (4, 4000), (1, 24), (3, 192), (1, 8), (1, 8), (1, 24), (3, 24), (2, 4), (1, 260), (2, 260), (2, 260), (2, 1040), (1, 26), (3, 26), (1, 26), (1, 13312), (1, 26), (1, 624), (1, 624), (1, 2496), (1, 16), (2, 16), (1, 16), (1, 16), (1, 16), (1, 16), (1, 14), (1, 14), (1, 14), (1, 14), (1, 14), (1, 14), (1, 14), (1, 26), (1, 26), (1, 3380), (1, 3380), (2, 3380), (1, 3380), (1, 26), (1, 6760), (1, 6760), (1, 6760), (1, 26), (1, 1586), (1, 1586), (1, 1586), (1, 1586), (1, 1586), (1, 1586), (1, 1586), (1, 1586), (1, 1586), (1, 1586), (1, 26), (1, 6500), (1, 6500), (1, 6500), (1, 6500), (1, 26), (1, 3146), (4, 25168), (1, 28), (4, 224), (1, 2001), (1, 2001), (1, 2001), (1, 2001), (4, 2000), (4, 25856), (4, 24800), (1, 2), (4, 2000), (3, 101), (4, 256), (4, 24800), (2, 1), (5, 15)]
def fkL : List (List Nat) := [[3, 3, 3, 3, 3, 3, 3, 3, 3, 3, 3, 0, 0, 2, 0, 0, 0, 2, 0], [3, 3, 3, 3, 0, 0, 0, 0, 1], [3, 3, 3, 3, 3, 3, 3, 3, 3, 3, 0, 0, 0, 0, 0, 0], [3, 3, 3, 3, 3, 0, 4, 0, 0], [3, 3, 3, 3, 3, 0, 0, 1, 1, 0], [3, 3, 3, 3, 3, 3, 3, 3, 3, 0, 0], [3, 3, 3, 3, 3, 3, 3, 3, 3, 3, 0, 0, 0, 0], [3, 3, 3, 3, 3, 3, 3, 3, 3, 3, 0, 0, 0, 0, 0, 0, 2], [3, 3, 3, 0, 0, 1, 0, 0, 0, 2, 0, 0, 0, 0, 0], [3, 3, 3, 3, 3, 3, 3, 3, 2, 2, 2, 0, 0, 0], [3, 3, 3, 3, 3, 3, 0, 0, 0, 2, 1, 1], [3, 3, 3, 3, 3, 3, 3, 3, 3, 3, 3, 3, 0, 0, 0], [0, 3, 0, 3, 0, 1, 0, 0, 3, 0, 3, 3, 0, 1, 1, 0, 0, 3, 3, 3, 0, 0, 3, 3, 3, 3, 3, 0, 0, 0, 0, 1, 0, 0, 3, 3, 0, 0, 3, 3, 3, 3, 3, 3, 3, 3, 3, 3, 3, 3, 3, 3, 3, 3, 3, 3, 3, 3, 3, 3, 3, 3, 3, 3, 3, 3, 0, 0, 3, 3, 3, 3, 3, 3, 3, 3, 0, 3, 3, 3, 3, 3, 3, 0, 0, 0, 3, 3, 3, 3, 3, 3, 3, 3, 1, 1, 3, 3, 3, 3, 3, 2, 2, 3, 3, 0, 3, 3, 3, 0, 3, 3, 0, 3, 0, 3, 3, 3, 3, 0, 3, 3, 3, 3, 3, 3, 3, 3, 3, 0, 3, 0, 3, 3, 3, 3, 3, 3, 3, 0, 0, 3, 2, 3, 2, 3, 3, 3, 3, 0, 3, 3, 3, 3, 3, 3, 0, 0, 3, 3, 0, 0, 3, 3, 2, 3, 3, 2, 2, 0, 3, 0, 3, 3, 3, 0, 1, 1, 2, 0, 0, 3, 3, 3, 3, 3, 3, 0, 3, 3, 3, 3, 0, 3, 0]]
def rfL : List (List Nat) := [[1, 2, 7, 18, 25, 30, 31, 41, 51, 60, 69, 75, 0, 0, 0], [], [3, 4, 5, 6, 0, 0, 0, 0, 0], [], [], [], [], [8, 9, 10, 11, 12, 13, 14, 15, 16, 17, 0, 0, 0, 0, 0, 0], [], [], [], [], [], [], [], [], [], [], [19, 20, 21, 22, 23, 0, 24, 0, 0], [], [], [], [], [], [], [7, 26, 27, 28, 29, 0, 0, 0, 0, 0], [], [], [], [], [18, 7, 25, 0, 0, 0, 0, 0, 0, 0, 0, 0, 0, 0, 0], [7, 32, 33, 34, 35, 36, 37, 38, 39, 40, 0, 0, 0, 0], [], [], [], [], [], [], [], [], [], [7, 31, 42, 43, 44, 45, 46, 47, 48, 49, 50, 0, 0, 0, 0, 0, 0, 0, 0], [], [], [], [], [], [], [], [], [], [31, 52, 53, 54, 55, 56, 57, 58, 59, 0, 0], [], [], [], [], [], [], [], [], [61, 62, 63, 64, 65, 66, 67, 68, 0, 0, 0, 0, 0, 0], [], [], [], [], [], [], [], [], [60, 70, 71, 72, 73, 74, 0, 0, 0, 0, 0, 0], [], [], [], [], [], [18, 7, 76, 77, 78, 79, 80, 81, 82, 83, 0, 0, 0, 0, 0, 0, 0], [], [], [], [], [], [], [], [], [0, 208, 0, 209, 0, 0, 0, 0, 210, 0, 211, 212, 0, 0, 0, 0, 0, 213, 214, 215, 0, 0, 217, 207, 206, 205, 204, 0, 0, 0, 0, 0, 0, 0, 203, 202, 0, 0, 201, 200, 199, 198, 197, 196, 195, 194, 193, 192, 191, 190, 189, 188, 187, 186, 185, 184, 183, 182, 181, 180, 179, 178, 177, 176, 175, 174, 0, 0, 173, 172, 171, 170, 169, 168, 167, 166, 0, 165, 164, 163, 162, 161, 160, 0, 0, 0, 159, 158, 157, 156, 155, 154, 153, 152, 0, 0, 151, 150, 149, 148, 147, 0, 0, 146, 145, 0, 144, 143, 142, 0, 141, 140, 0, 139, 0, 138, 137, 136, 135, 0, 134, 133, 132, 131, 130, 129, 128, 127, 126, 0, 125, 0, 124, 123, 122, 121, 120, 119, 118, 0, 0, 117, 0, 116, 0, 115, 114, 113, 112, 0, 111, 110, 109, 108, 107, 106, 0, 0, 105, 104, 0, 0, 103, 102, 0, 101, 100, 0, 0, 0, 99, 0, 98, 97, 96, 0, 0, 0, 0, 0, 0, 95, 94, 93, 92, 91, 90, 0, 89, 88, 87, 86, 0, 85, 0], [], [], [], [], [], [], [], [], [], [], [], [], [], [], [], [], [], [], [], [], [], [], [], [], [], [], [], [], [], [], [], [], [], [], [], [], [], [], [], [], [], [], [], [], [], [], [], [], [], [], [], [], [], [], [], [], [], [], [], [], [], [], [], [], [], [], [], [], [], [], [], [], [], [], [], [], [], [], [], [], [], [], [], [], [], [], [], [], [], [], [], [], [], [], [], [], [], [], [], [], [], [], [], [], [], [], [], [], [], [], [], [], [], [], [], [], [], [], [], [], [], [], [], [], [], [], [], [], [], [], [], [], []]
-- the plain machine: the world of both objects as numbers by place, and a judgement over it, with a row an instruction
/-- numbers, long numbers, truth values, bytes, references (places of the world; from 1000 on old texts) -/
abbrev St : Type := (Nat → Nat → Int32) × (Nat → Nat → Int64) × (Nat → Nat → Bool) × (Nat → Nat → Int8) × (Nat → Nat → Nat)
def gi (σ : St) (q k : Nat) : Int32 := σ.1 q k
def gl (σ : St) (q k : Nat) : Int64 := σ.2.1 q k
def gb (σ : St) (q k : Nat) : Bool := σ.2.2.1 q k
def gy (σ : St) (q k : Nat) : Int8 := σ.2.2.2.1 q k
def gr (σ : St) (q k : Nat) : Nat := σ.2.2.2.2 q k
def up2 {α : Type} (f : Nat → Nat → α) (q k : Nat) (v : α) : Nat → Nat → α := fun a b => if a = q ∧ b = k then v else f a b
def upr {α : Type} (f : Nat → Nat → α) (q : Nat) (g : Nat → α) : Nat → Nat → α := fun a b => if a = q then g b else f a b
def si (σ : St) (q k : Nat) (v : Int32) : St := (up2 σ.1 q k v, σ.2)
def sl (σ : St) (q k : Nat) (v : Int64) : St := (σ.1, up2 σ.2.1 q k v, σ.2.2)
def sb (σ : St) (q k : Nat) (v : Bool) : St := (σ.1, σ.2.1, up2 σ.2.2.1 q k v, σ.2.2.2)
def sy (σ : St) (q k : Nat) (v : Int8) : St := (σ.1, σ.2.1, σ.2.2.1, up2 σ.2.2.2.1 q k v, σ.2.2.2.2)
def sr (σ : St) (q k : Nat) (v : Nat) : St := (σ.1, σ.2.1, σ.2.2.1, σ.2.2.2.1, up2 σ.2.2.2.2 q k v)
def ri (σ : St) (q : Nat) (g : Nat → Int32) : St := (upr σ.1 q g, σ.2)
def rl (σ : St) (q : Nat) (g : Nat → Int64) : St := (σ.1, upr σ.2.1 q g, σ.2.2)
def bI (b : Bool) : Int32 := if b then 1 else 0
/-- what all contracts are about: the launch, the old things, the tables, the classes of arrays (int, long, boolean, byte, texts), where the places lie -/
abbrev kG9 : Type := Launch × kE × va_G × (ClassId × ClassId × ClassId × ClassId × ClassId) × (Nat → Nat)
/-- where a place lies: places of the world, texts from 1000 on, their bytes from 2000 on, what a static of Preconditions holds -/
def ga (G : kG9) (q : Nat) : Nat := if q < 1000 then G.2.2.2.2 q else if q < 2000 then G.2.1.2.2.2.2.1 (q - 1000) else if q < 3000 then G.2.1.2.2.2.2.2 (q - 2000) else G.2.1.2.2.2.1.getD 0
def cv (G : kG9) : Value → Value
  | .ref q => .ref (ga G q)
  | .int x => .int x
  | .long x => .long x
  | .float x => .float x
  | .double x => .double x
  | .null => .null
  | .retAddr a => .retAddr a
def cvl (G : kG9) (q : Nat × Value) : Nat × Value := (q.1, cv G q.2)
theorem cv_cat (G : kG9) (v : Value) : (cv G v).category = v.category := by cases v <;> rfl
def rfc (q k : Nat) : Nat := (rfL.getD q []).getD k 0
def fv (G : kG9) (σ : St) (q k : Nat) : Nat → Value
  | 0 => .int (gi σ q k)
  | 1 => .int (bI (gb σ q k))
  | 2 => .long (gl σ q k)
  | 3 => .ref (ga G (rfc q k))
  | _ => .ref (ga G (gr σ q k))
def wcell (G : kG9) (σ : St) (q : Nat) : va_E := match layL.getD q (9, 0) with
  | (0, ci) => .inr (ci, (List.range (fkL.getD ci []).length).map fun k => fv G σ q k ((fkL.getD ci []).getD k 0))
  | (1, n) => .inl (G.2.2.2.1.1, n, .inl (gi σ q))
  | (2, n) => .inl (G.2.2.2.1.2.1, n, .inr (.inl (gl σ q)))
  | (3, n) => .inl (G.2.2.2.1.2.2.1, n, .inl (fun j => bI (gb σ q j)))
  | (4, n) => .inl (G.2.2.2.1.2.2.2.1, n, .inl (fun j => (gy σ q j).toInt32))
  | (_, n) => .inl (G.2.2.2.1.2.2.2.2, n, .inr (.inr (.inr (.inr (fun j => some (ga G (1000 + j)))))))
def kT5 (G : kG9) : List (ClassId × FieldType) := [(G.2.2.2.1.1, .int), (G.2.2.2.1.2.1, .long), (G.2.2.2.1.2.2.2.1, .byte), (G.2.2.2.1.2.2.1, .boolean), (G.2.2.2.1.2.2.2.2, .object "java/lang/String")]
def ws9 (G : kG9) (σ : St) : va_W := (List.range layL.length).map fun q => (ga G q, wcell G σ q)
theorem ws9_at (G : kG9) (σ : St) {q : Nat} (h : q < layL.length) : (ws9 G σ)[q]? = some (ga G q, wcell G σ q) := by
  rw [ws9, List.getElem?_map, List.getElem?_range h]; rfl
theorem ws9_set (G : kG9) {σ σ' : St} {q : Nat} (e : ∀ q', q' ≠ q → wcell G σ' q' = wcell G σ q') : (ws9 G σ).set q (ga G q, wcell G σ' q) = ws9 G σ' := by
  apply List.ext_getElem?
  intro i
  by_cases hi : i = q
  · subst hi
    by_cases hl : i < layL.length
    · rw [List.getElem?_set_self (by simpa [ws9] using hl), ws9_at G σ' hl]
    · rw [List.getElem?_eq_none (by simpa [ws9] using hl), List.getElem?_eq_none (by simpa [ws9] using hl)]
  · rw [List.getElem?_set_ne (Ne.symm hi)]
    by_cases hl : i < layL.length
    · rw [ws9_at G σ hl, ws9_at G σ' hl, e i hi]
    · rw [List.getElem?_eq_none (by simpa [ws9] using hl), List.getElem?_eq_none (by simpa [ws9] using hl)]
theorem range_set {α : Type} (n k : Nat) (f : Nat → α) (v : α) : ((List.range n).map f).set k v = (List.range n).map (fun j => if j = k then v else f j) := by
  apply List.ext_getElem?
  intro i
  by_cases hi : i = k
  · subst hi
    by_cases hl : i < n
    · rw [List.getElem?_set_self (by simpa using hl), List.getElem?_map, List.getElem?_range hl]; simp
    · rw [List.getElem?_eq_none (by simpa using hl), List.getElem?_eq_none (by simpa using hl)]
  · rw [List.getElem?_set_ne (Ne.symm hi), List.getElem?_map, List.getElem?_map]
    by_cases hl : i < n
    · rw [List.getElem?_range hl]; simp [hi]
    · rw [List.getElem?_eq_none (by simpa using hl)]; rfl
/-- the cells of a place depend on that place alone -/
theorem wcell_of (G : kG9) {σ σ' : St} {q : Nat} (h1 : ∀ k, gi σ' q k = gi σ q k) (h2 : ∀ k, gl σ' q k = gl σ q k) (h3 : ∀ k, gb σ' q k = gb σ q k) (h4 : ∀ k, gy σ' q k = gy σ q k) (h5 : ∀ k, gr σ' q k = gr σ q k) : wcell G σ' q = wcell G σ q := by
  have e1 : gi σ' q = gi σ q := funext h1
  have e2 : gl σ' q = gl σ q := funext h2
  have e3 : gb σ' q = gb σ q := funext h3
  have e4 : gy σ' q = gy σ q := funext h4
  have e5 : gr σ' q = gr σ q := funext h5
  have e6 : ∀ k n, fv G σ' q k n = fv G σ q k n := fun k n => by
    match n with
    | 0 => simp [fv, h1]
    | 1 => simp [fv, h3]
    | 2 => simp [fv, h2]
    | 3 => rfl
    | n + 4 => simp [fv, h5]
  simp only [wcell, e1, e2, e3, e4, e5, e6]
/-- a block of instructions, with their places and lengths -/
abbrev Blk : Type := List (Nat × Instr × Nat)
def hpc (B : Blk) : Nat := (B.headD (0, .nop, 0)).1
def Chn (cc : ByteArray) : Blk → Prop
  | [] => True
  | x :: B => decode cc x.1 = .ok (x.2.1, x.2.2) ∧ (B ≠ [] → hpc B = x.1 + x.2.2) ∧ Chn cc B
theorem Chn.dec {cc : ByteArray} {pc n : Nat} {i : Instr} {B : Blk} (h : Chn cc ((pc, i, n) :: B)) : decode cc pc = .ok (i, n) := h.1
theorem Chn.nx {cc : ByteArray} {pc n : Nat} {i : Instr} {B : Blk} (h : Chn cc ((pc, i, n) :: B)) (hn : B ≠ []) : hpc B = pc + n := h.2.1 hn
theorem Chn.tl {cc : ByteArray} {pc n : Nat} {i : Instr} {B : Blk} (h : Chn cc ((pc, i, n) :: B)) : Chn cc B := h.2.2
/-- a block is that of a code: tried place by place -/
def chk9 (cc : ByteArray) (e : Nat) : Blk → Bool
  | [] => true
  | x :: B => decide (decode cc x.1 = .ok (x.2.1, x.2.2)) && ((match B with | [] => e | y :: _ => y.1) == x.1 + x.2.2) && chk9 cc e B
theorem chn_app {cc : ByteArray} {C : Blk} : ∀ (B : Blk), Chn cc C → chk9 cc (hpc C) B = true → Chn cc (B ++ C)
  | [], hC, _ => hC
  | x :: B, hC, h => by
    simp only [chk9, Bool.and_eq_true, decide_eq_true_eq, beq_iff_eq] at h
    refine ⟨h.1.1, fun _ => ?_, chn_app B hC h.2⟩
    cases B with
    | nil => exact h.1.2
    | cons y B => exact h.1.2
def chk8 (cc : ByteArray) : Blk → Bool
  | [] => true
  | x :: B => decide (decode cc x.1 = .ok (x.2.1, x.2.2)) && (match B with | [] => true | y :: _ => y.1 == x.1 + x.2.2) && chk8 cc B
theorem chn_of {cc : ByteArray} : ∀ (B : Blk), chk8 cc B = true → Chn cc B
  | [], _ => trivial
  | x :: B, h => by
    simp only [chk8, Bool.and_eq_true, decide_eq_true_eq] at h
    refine ⟨h.1.1, fun hn => ?_, chn_of B h.2⟩
    cases B with
    | nil => exact absurd rfl hn
    | cons y B => exact beq_iff_eq.mp h.1.2
/-- a method: its name, its code, its locals, what it returns, its class, and of what kind that is (0 nothing, 1 a number, 2 a long one) -/
abbrev MT : Type := MethodName × ByteArray × Nat × Option FieldType × String × Nat
def cwd (M : MT) : Cond := .code M.1 M.2.1 M.2.2.1 M.2.2.2.1
def allW : List Cond := lw_tbl.filter goodWord
theorem allW_in {w : Cond} (h : w ∈ lw_tbl) (hg : goodWord w = true) : w ∈ allW := List.mem_filter.mpr ⟨h, hg⟩
theorem allW_good : ∀ w ∈ allW, kG w := k_gF lw_tbl
def rmd (d : Nat) : Room := { frames := d + 4, cells := 0, slots := 0, locals := 64 * d + 400 }
/-- what stands all through a method -/
def Cx (G : kG9) (M : MT) (p : Program) (s : State) (m : MethodId) (args : Array Value) (meth : Method) (c : Code) (A : Nat → Prop) : Prop :=
  p.tables.exec = Jvm.exec ∧ c.code = M.2.1 ∧ meth.sig.returnType = M.2.2.2.1 ∧ c.maxLocals = M.2.2.1 ∧ s.vm.findClass M.2.2.2.2.1 = some m.cls ∧ (∀ w ∈ cwd M :: allW, w.before args s = true) ∧ meth.locks = false ∧ kN s ∧ kX G.2.1 s ∧ (∀ q, A q → G.2.1.1 ≤ q) ∧ va_K G.2.2.1 vwCl (kT5 G) s ∧ (∀ q, s.heap.size ≤ q → A q)
def WH (G : kG9) (A : Nat → Prop) (s : State) (H : Heap) (locs : List Loc) (σ : St) : Prop := va_P G.2.2.1 vwCl (ws9 G σ) H ∧ va_D A (ws9 G σ) ∧ va_S A s.heap H locs
def QB (G : kG9) (A : Nat → Prop) : St → State → Prop := fun σ t => va_P G.2.2.1 vwCl (ws9 G σ) t.heap ∧ va_K G.2.2.1 vwCl (kT5 G) t ∧ va_D A (ws9 G σ)
def QC (G : kG9) (Q : Option Value → St → Prop) (A : Nat → Prop) : Nat → Array Value → State → Outcome → State → Prop
  | 0 => va_Qv (fun σ => Q none σ) (QB G A) A
  | 1 => va_Qi (fun r σ => Q (some (.int r)) σ) (QB G A) A
  | _ => va_Ql (fun r σ => Q (some (.long r)) σ) (QB G A) A
/-- a method's contract: from these arguments and this world it returns, with an answer and a world of which Q holds -/
def Ct (G : kG9) (M : MT) (d : Nat) (av : List Value) (σ : St) (Q : Option Value → St → Prop) : Prop :=
  ∀ sz, Met G.1 M.1 (cwd M :: allW) (rmd d) (kPc G.2.1 G.2.2.1 (kT5 G) (av.map (cv G)) sz (ws9 G σ)) (QC G Q (va_A (ws9 G σ) sz) M.2.2.2.2.2) 0 0 (va_A (ws9 G σ) sz)
/-- what a walk stands in: its room, the cells and slots that it has used, what else is known of its start, what is to be come to -/
abbrev ZT : Type := Room × Nat × Nat × (State → (Nat → Prop) → Prop) × (List Frame → Array Value → State → (Nat → Prop) → State → Prop)
def ZM (G : kG9) (M : MT) (d : Nat) (Q : Option Value → St → Prop) : ZT := (rmd d, 0, 0, fun _ _ => True, fun below args s A => MQ below (QC G Q A M.2.2.2.2.2) args s 0 0 A)
def WA (G : kG9) (M : MT) (Z : ZT) (B : Blk) (lv : List (Nat × Value)) (st : List Value) (σ : St) : Prop :=
  B ≠ [] ∧ (Chn M.2.1 B → ∀ (p : Program) (e : Env) (s : State) (m : MethodId) (args : Array Value) (below : List Frame) (meth : Method) (c : Code) (H : Heap) (locs : List Loc) (A : Nat → Prop) (ls : Array Slot), Cx G M p s m args meth c A → Z.2.2.2.1 s A → WH G A s H locs σ → lv_has ls M.2.2.1 (lv.map (cvl G)) →
    W p G.1 e Z.1 s m args below meth c H locs Z.2.1 Z.2.2.1 (Z.2.2.2.2 below args s A) (F0 m (hpc B) ls (st.map (cv G))))
/-- there is room for a call -/
def ZR (Z : ZT) (d : Nat) : Prop := (d + 5 ≤ Z.1.frames ∧ 64 * (d + 1) + 400 ≤ Z.1.locals) ∧ Z.2.1 ≤ Z.1.cells ∧ Z.2.2.1 ≤ Z.1.slots
theorem zr {G : kG9} {M : MT} {d d9 : Nat} {Q : Option Value → St → Prop} (h : d9 + 1 ≤ d) : ZR (ZM G M d Q) d9 := ⟨⟨by show d9 + 5 ≤ d + 4; omega, by show 64 * (d9 + 1) + 400 ≤ 64 * d + 400; omega⟩, Nat.le_refl _, Nat.le_refl _⟩
theorem lv_args_map (G : kG9) : ∀ (k : Nat) (vs : List Value), lv_args k (vs.map (cv G)) = (lv_args k vs).map (cvl G)
  | _, [] => rfl
  | k, v :: vs => by
    simp only [List.map_cons, lv_args, cv_cat]
    split <;> simp [lv_args_map G, cvl]
theorem lg_sl_len (G : kG9) : ∀ (vs : List Value), (lg_sl (vs.map (cv G))).length = (lg_sl vs).length
  | [] => rfl
  | v :: vs => by
    have h := lg_sl_len G vs
    simp only [lg_sl] at h
    simp only [lg_sl, List.map_cons, List.flatMap_cons, List.length_append, cv_cat, h]
    split <;> rfl
theorem wa_start {G : kG9} {M : MT} {d : Nat} {Q : Option Value → St → Prop} {B : Blk} {av : List Value} {lv : List (Nat × Value)} {σ : St} (hy : plainName M.1.cls = true) (hown : M.1.cls = M.2.2.2.2.1) (hn : (lg_sl av).length ≤ M.2.2.1) (hlv : lv_args 0 av = lv) (hB : Chn M.2.1 B) (h0 : hpc B = 0) (k : WA G M (ZM G M d Q) B lv [] σ) : Ct G M d av σ Q := by
  intro sz
  refine Met.ofW (cc := M.2.1) (maxL := M.2.2.1) (ret := M.2.2.2.1) hy rfl ?_
  intro p e s m args below meth c s₁ B9 hml hv
  obtain ⟨rfl, hsz, hP, hK, hD0, hN, hX⟩ := hv
  subst hsz
  have hD := hD0.self (sz := s.heap.size)
  have hAE := k_AE hD0 hX
  have hown9 : s.vm.findClass M.2.2.2.2.1 = some m.cls := by rw [← hown]; exact findClass_of_methodNamed B9.named
  have hl := lv_entry (av.map (cv G)) (n := M.2.2.1) (by rw [lg_sl_len]; exact hn)
  rw [lg_entry_eq]
  rw [lv_args_map, hlv] at hl
  have h9 := k.2 hB p e s m (av.map (cv G)).toArray below meth c s.heap [] (va_A (ws9 G σ) s.heap.size) _ ⟨B9.exec, B9.bytes, B9.returns, hml, hown9, atoms_spec (ws := cwd M :: allW) B9.pre, B9.notSynchronized, hN, hX, hAE, hK, fun q h => Or.inr h⟩ trivial ⟨hP, hD, va_S.rf⟩ hl
  rw [h0] at h9
  exact h9
theorem met_ofWF {l : Launch} {y : MethodName} {ws ws' : List Cond} {rm : Room} {Pc : Array Value → State → Prop} {Qc : Array Value → State → Outcome → State → Prop} {mc ms : Nat} {free : Addr → Prop} {cc : ByteArray} {maxL : Nat} {ret : Option FieldType}
    (hy : plainFor y = true) (hw : ws = Cond.code y cc maxL ret :: ws')
    (body : ∀ p e s m args below meth c s₁, BodyLoose p l y (headSpec ws rm) cc maxL ret e s m args below meth c s₁ → c.maxLocals = maxL → Pc args s →
      W p l e (headSpec ws rm).room s m args below meth c s.heap [] 0 0 (MQ below Qc args s mc ms free) (entryFrame m args maxL)) : Met l y ws rm Pc Qc mc ms free := by
  refine MetFree.of_bodyRF (code := cc) (maxLocals := maxL) (ret := ret) hy ?_ ?_
  · intro args s m h hn
    obtain ⟨meth, c, h1, h2, h3, h4, h5, h6, -, -⟩ := Cond.code_spec hn (atoms_spec (ws := ws) h _ (by rw [hw]; exact List.mem_cons_self))
    exact ⟨meth, c, h1, h2, h3, h4, h5, h6⟩
  · intro p e s m args below meth c s₁ B hml hP _ hst
    have hh0 : s₁.heap = s.heap := by rw [B.state]; rfl
    obtain ⟨t, a1, o, b1, b2, b3⟩ := body p e s m args below meth c s₁ B hml hP s₁ hh0 (Stand.of_body B)
    exact ⟨t, o, hst.trans a1, b1, b2, ⟨b3.1, b3.2⟩⟩
theorem wa_startF {G : kG9} {M : MT} {d : Nat} {Q : Option Value → St → Prop} {B : Blk} {av : List Value} {lv : List (Nat × Value)} {σ : St} (hy : plainFor M.1 = true) (hown : M.1.cls = M.2.2.2.2.1) (hn : (lg_sl av).length ≤ M.2.2.1) (hlv : lv_args 0 av = lv) (hB : Chn M.2.1 B) (h0 : hpc B = 0) (k : WA G M (ZM G M d Q) B lv [] σ) : Ct G M d av σ Q := by
  intro sz
  refine met_ofWF (cc := M.2.1) (maxL := M.2.2.1) (ret := M.2.2.2.1) hy rfl ?_
  intro p e s m args below meth c s₁ B9 hml hv
  obtain ⟨rfl, hsz, hP, hK, hD0, hN, hX⟩ := hv
  subst hsz
  have hD := hD0.self (sz := s.heap.size)
  have hAE := k_AE hD0 hX
  have hown9 : s.vm.findClass M.2.2.2.2.1 = some m.cls := by rw [← hown]; exact findClass_of_methodNamed B9.named
  have hl := lv_entry (av.map (cv G)) (n := M.2.2.1) (by rw [lg_sl_len]; exact hn)
  rw [lg_entry_eq]
  rw [lv_args_map, hlv] at hl
  have h9 := k.2 hB p e s m (av.map (cv G)).toArray below meth c s.heap [] (va_A (ws9 G σ) s.heap.size) _ ⟨B9.exec, B9.bytes, B9.returns, hml, hown9, atoms_spec (ws := cwd M :: allW) B9.pre, B9.notSynchronized, hN, hX, hAE, hK, fun q h => Or.inr h⟩ trivial ⟨hP, hD, va_S.rf⟩ hl
  rw [h0] at h9
  exact h9
section PM
variable {G : kG9} {M : MT} {Z : ZT} {B : Blk} {lv lv' : List (Nat × Value)} {st : List Value} {σ : St} {pc : Nat}
theorem lk_in {lv : List (Nat × Value)} {i : Nat} {v : Value} (h : List.lookup i lv = some v) : (i, v) ∈ lv := by
  induction lv with
  | nil => cases h
  | cons a l ih =>
    obtain ⟨j, w⟩ := a
    rw [List.lookup_cons] at h
    cases hj : (i == j) with
    | true =>
      rw [hj] at h
      rw [beq_iff_eq] at hj
      have h : some w = some v := h
      injection h with h
      subst hj h
      exact List.mem_cons_self
    | false =>
      rw [hj] at h
      exact List.mem_cons_of_mem _ (ih h)
theorem lk_at {ls : Array Slot} {nL i : Nat} {v : Value} (hl : lv_has ls nL (lv.map (cvl G))) (h : List.lookup i lv = some v) : ls[i]? = some (.val (cv G v)) := hl.2.2 (cvl G (i, v)) (List.mem_map_of_mem (lk_in h))
/-- fewer locals -/
theorem wa_less (hs : ∀ q ∈ lv', q ∈ lv) (k : WA G M Z B lv' st σ) : WA G M Z B lv st σ := by
  refine ⟨k.1, fun hB p e s m args below meth c H locs A ls hc hx hw hl => ?_⟩
  refine k.2 hB p e s m args below meth c H locs A ls hc hx hw ⟨hl.1, hl.2.1, fun q hq => ?_⟩
  obtain ⟨a, ha, rfl⟩ := List.mem_map.mp hq
  exact hl.2.2 _ (List.mem_map_of_mem (hs a ha))
theorem wa_pick (ks : List Nat) (hp : lv_pick lv ks = lv') (k : WA G M Z B lv' st σ) : WA G M Z B lv st σ := by
  refine wa_less (fun q hq => ?_) k
  rw [← hp] at hq
  obtain ⟨i, -, hi⟩ := List.mem_filterMap.mp hq
  exact List.mem_of_getElem? hi
theorem bI_or {x y : Int32} {a b : Bool} (h1 : x = bI a) (h2 : y = bI b) : x ||| y = bI (a || b) := by subst h1 h2; cases a <;> cases b <;> rfl
theorem bI_and {x y : Int32} {a b : Bool} (h1 : x = bI a) (h2 : y = bI b) : x &&& y = bI (a && b) := by subst h1 h2; cases a <;> cases b <;> rfl
theorem bI_xor {x y : Int32} {a b : Bool} (h1 : x = bI a) (h2 : y = bI b) : x ^^^ y = bI (a ^^ b) := by subst h1 h2; cases a <;> cases b <;> rfl
theorem bI_0 {b : Bool} : bI b = 0 ↔ b = false := by cases b <;> decide
theorem bI_f {x : Int32} {b : Bool} (e : x = bI b) (h : x = 0) : b = false := by subst e; exact bI_0.mp h
theorem bI_t {x : Int32} {b : Bool} (e : x = bI b) (h : ¬ x = 0) : b = true := by subst e; cases b <;> simp_all [bI]
theorem wa_iconst {n : Int} {v : Int32} (hv : Int32.ofInt n = v) (kk : WA G M Z B lv (.int v :: st) σ) : WA G M Z ((pc, .iconst n, 1) :: B) lv (st) σ := by
  refine ⟨List.cons_ne_nil _ _, fun hB p e s m args below meth c H locs A ls hc hx hw hl => ?_⟩
  have k0 := kk
  have k9 := k0.2 hB.tl p e s m args below meth c H locs A ls hc hx hw hl
  rw [hB.nx k0.1] at k9
  exact lv_iconst hc.1 hc.2.1 hB.dec hv k9
theorem wa_bipush {n : Int} {v : Int32} (hv : (Int8.ofInt n).toInt32 = v) (kk : WA G M Z B lv (.int v :: st) σ) : WA G M Z ((pc, .bipush n, 2) :: B) lv (st) σ := by
  refine ⟨List.cons_ne_nil _ _, fun hB p e s m args below meth c H locs A ls hc hx hw hl => ?_⟩
  have k0 := kk
  have k9 := k0.2 hB.tl p e s m args below meth c H locs A ls hc hx hw hl
  rw [hB.nx k0.1] at k9
  exact lv_bipush hc.1 hc.2.1 hB.dec hv k9
theorem wa_sipush {n : Int} {v : Int32} (hv : (Int16.ofInt n).toInt32 = v) (kk : WA G M Z B lv (.int v :: st) σ) : WA G M Z ((pc, .sipush n, 3) :: B) lv (st) σ := by
  refine ⟨List.cons_ne_nil _ _, fun hB p e s m args below meth c H locs A ls hc hx hw hl => ?_⟩
  have k0 := kk
  have k9 := k0.2 hB.tl p e s m args below meth c H locs A ls hc hx hw hl
  rw [hB.nx k0.1] at k9
  exact lv_sipush hc.1 hc.2.1 hB.dec hv k9
theorem wa_lconst {n : Fin 2} {v : Int64} (hv : Int64.ofNat (n : Nat) = v) (kk : WA G M Z B lv (.long v :: st) σ) : WA G M Z ((pc, .lconst n, 1) :: B) lv (st) σ := by
  refine ⟨List.cons_ne_nil _ _, fun hB p e s m args below meth c H locs A ls hc hx hw hl => ?_⟩
  have k0 := kk
  have k9 := k0.2 hB.tl p e s m args below meth c H locs A ls hc hx hw hl
  rw [hB.nx k0.1] at k9
  exact lv_lconst hc.1 hc.2.1 hB.dec hv k9
theorem wa_ldc {n : Nat} {v : Int32} (hw9 : Cond.constant M.2.2.2.2.1 n v ∈ allW) (kk : WA G M Z B lv (.int v :: st) σ) : WA G M Z ((pc, .ldc n, 2) :: B) lv (st) σ := by
  refine ⟨List.cons_ne_nil _ _, fun hB p e s m args below meth c H locs A ls hc hx hw hl => ?_⟩
  have k0 := kk
  have k9 := k0.2 hB.tl p e s m args below meth c H locs A ls hc hx hw hl
  rw [hB.nx k0.1] at k9
  exact lv_ldc hc.1 hc.2.1 hc.2.2.2.2.1 (hc.2.2.2.2.2.1 _ (List.mem_cons_of_mem _ hw9)) hB.dec k9
theorem wa_ldcw {n : Nat} {v : Int32} (hw9 : Cond.constant M.2.2.2.2.1 n v ∈ allW) (kk : WA G M Z B lv (.int v :: st) σ) : WA G M Z ((pc, .ldc_w n, 3) :: B) lv (st) σ := by
  refine ⟨List.cons_ne_nil _ _, fun hB p e s m args below meth c H locs A ls hc hx hw hl => ?_⟩
  have k0 := kk
  have k9 := k0.2 hB.tl p e s m args below meth c H locs A ls hc hx hw hl
  rw [hB.nx k0.1] at k9
  exact lv_ldcw hc.1 hc.2.1 hc.2.2.2.2.1 (hc.2.2.2.2.2.1 _ (List.mem_cons_of_mem _ hw9)) hB.dec k9
theorem wa_ldc2 {n : Nat} {v : Int64} (hw9 : Cond.constantLong M.2.2.2.2.1 n v ∈ allW) (kk : WA G M Z B lv (.long v :: st) σ) : WA G M Z ((pc, .ldc2_w n, 3) :: B) lv (st) σ := by
  refine ⟨List.cons_ne_nil _ _, fun hB p e s m args below meth c H locs A ls hc hx hw hl => ?_⟩
  have k0 := kk
  have k9 := k0.2 hB.tl p e s m args below meth c H locs A ls hc hx hw hl
  rw [hB.nx k0.1] at k9
  exact lv_ldc2 hc.1 hc.2.1 hc.2.2.2.2.1 (hc.2.2.2.2.2.1 _ (List.mem_cons_of_mem _ hw9)) hB.dec k9
theorem wa_iload_n {k : Fin 4} {i : Nat} {x : Int32} (hi : (k : Nat) = i) (h : List.lookup i lv = some (.int x)) (kk : WA G M Z B lv (.int x :: st) σ) : WA G M Z ((pc, .iload_n k, 1) :: B) lv (st) σ := by
  refine ⟨List.cons_ne_nil _ _, fun hB p e s m args below meth c H locs A ls hc hx hw hl => ?_⟩
  have k0 := kk
  have k9 := k0.2 hB.tl p e s m args below meth c H locs A ls hc hx hw hl
  rw [hB.nx k0.1] at k9
  exact lv_iload_n hc.1 hc.2.1 hB.dec hi (lk_at hl h) k9
theorem wa_iload {i : Nat} {x : Int32} (h : List.lookup i lv = some (.int x)) (kk : WA G M Z B lv (.int x :: st) σ) : WA G M Z ((pc, .iload i, 2) :: B) lv (st) σ := by
  refine ⟨List.cons_ne_nil _ _, fun hB p e s m args below meth c H locs A ls hc hx hw hl => ?_⟩
  have k0 := kk
  have k9 := k0.2 hB.tl p e s m args below meth c H locs A ls hc hx hw hl
  rw [hB.nx k0.1] at k9
  exact lv_iload hc.1 hc.2.1 hB.dec (lk_at hl h) k9
theorem wa_lload_n {k : Fin 4} {i : Nat} {x : Int64} (hi : (k : Nat) = i) (h : List.lookup i lv = some (.long x)) (kk : WA G M Z B lv (.long x :: st) σ) : WA G M Z ((pc, .lload_n k, 1) :: B) lv (st) σ := by
  refine ⟨List.cons_ne_nil _ _, fun hB p e s m args below meth c H locs A ls hc hx hw hl => ?_⟩
  have k0 := kk
  have k9 := k0.2 hB.tl p e s m args below meth c H locs A ls hc hx hw hl
  rw [hB.nx k0.1] at k9
  exact lv_lload_n hc.1 hc.2.1 hB.dec hi (lk_at hl h) k9
theorem wa_lload {i : Nat} {x : Int64} (h : List.lookup i lv = some (.long x)) (kk : WA G M Z B lv (.long x :: st) σ) : WA G M Z ((pc, .lload i, 2) :: B) lv (st) σ := by
  refine ⟨List.cons_ne_nil _ _, fun hB p e s m args below meth c H locs A ls hc hx hw hl => ?_⟩
  have k0 := kk
  have k9 := k0.2 hB.tl p e s m args below meth c H locs A ls hc hx hw hl
  rw [hB.nx k0.1] at k9
  exact lv_lload hc.1 hc.2.1 hB.dec (lk_at hl h) k9
theorem wa_aload_n {k : Fin 4} {i : Nat} {x : Nat} (hi : (k : Nat) = i) (h : List.lookup i lv = some (.ref x)) (kk : WA G M Z B lv (.ref x :: st) σ) : WA G M Z ((pc, .aload_n k, 1) :: B) lv (st) σ := by
  refine ⟨List.cons_ne_nil _ _, fun hB p e s m args below meth c H locs A ls hc hx hw hl => ?_⟩
  have k0 := kk
  have k9 := k0.2 hB.tl p e s m args below meth c H locs A ls hc hx hw hl
  rw [hB.nx k0.1] at k9
  exact lv_aload_n hc.1 hc.2.1 hB.dec hi (lk_at hl h) k9
theorem wa_aload {i : Nat} {x : Nat} (h : List.lookup i lv = some (.ref x)) (kk : WA G M Z B lv (.ref x :: st) σ) : WA G M Z ((pc, .aload i, 2) :: B) lv (st) σ := by
  refine ⟨List.cons_ne_nil _ _, fun hB p e s m args below meth c H locs A ls hc hx hw hl => ?_⟩
  have k0 := kk
  have k9 := k0.2 hB.tl p e s m args below meth c H locs A ls hc hx hw hl
  rw [hB.nx k0.1] at k9
  exact lv_aload hc.1 hc.2.1 hB.dec (lk_at hl h) k9
def stl1 (i : Nat) (v : Value) (lv : List (Nat × Value)) : List (Nat × Value) := (i, v) :: lv.filter (fun q => !(q.1 == i) && !(q.1 + 1 == i && q.2.category == 2))
def stl2 (i : Nat) (v : Value) (lv : List (Nat × Value)) : List (Nat × Value) := (i, v) :: lv.filter (fun q => !(q.1 == i) && (!(q.1 == i + 1) && !(q.1 + 1 == i && q.2.category == 2)))
theorem stl1_map (i : Nat) (v : Value) (lv : List (Nat × Value)) : (i, cv G v) :: (lv.map (cvl G)).filter (fun q => !(q.1 == i) && !(q.1 + 1 == i && q.2.category == 2)) = (stl1 i v lv).map (cvl G) := by
  rw [stl1, List.map_cons, List.filter_map]
  congr 2
  apply List.filter_congr
  intro x _
  simp [cvl, cv_cat]
theorem stl2_map (i : Nat) (v : Value) (lv : List (Nat × Value)) : (i, cv G v) :: (lv.map (cvl G)).filter (fun q => !(q.1 == i) && (!(q.1 == i + 1) && !(q.1 + 1 == i && q.2.category == 2))) = (stl2 i v lv).map (cvl G) := by
  rw [stl2, List.map_cons, List.filter_map]
  congr 2
  apply List.filter_congr
  intro x _
  simp [cvl, cv_cat]
theorem wa_istore_n {k : Fin 4} {i : Nat} {x : Int32} {lv' : Int32 → List (Nat × Value)} (hi : (k : Nat) = i) (hn : i < M.2.2.1) (hlv : ∀ y, stl1 i (.int y) lv = lv' y) (kk : ∀ y, y = x → WA G M Z B (lv' y) st σ) : WA G M Z ((pc, .istore_n k, 1) :: B) lv (.int x :: st) σ := by
  refine ⟨List.cons_ne_nil _ _, fun hB p e s m args below meth c H locs A ls hc hx hw hl => ?_⟩
  refine lv_istore_n hc.1 hc.2.1 hB.dec hi hl hn (stl1_map (G := G) i (.int x) lv) (fun ls' hl' => ?_)
  rw [hlv] at hl'
  have k0 := kk x rfl
  have k9 := k0.2 hB.tl p e s m args below meth c H locs A ls' hc hx hw hl'
  rw [hB.nx k0.1] at k9
  exact k9
theorem wa_istore {i : Nat} {x : Int32} {lv' : Int32 → List (Nat × Value)} (hn : i < M.2.2.1) (hlv : ∀ y, stl1 i (.int y) lv = lv' y) (kk : ∀ y, y = x → WA G M Z B (lv' y) st σ) : WA G M Z ((pc, .istore i, 2) :: B) lv (.int x :: st) σ := by
  refine ⟨List.cons_ne_nil _ _, fun hB p e s m args below meth c H locs A ls hc hx hw hl => ?_⟩
  refine lv_istore hc.1 hc.2.1 hB.dec hl hn (stl1_map (G := G) i (.int x) lv) (fun ls' hl' => ?_)
  rw [hlv] at hl'
  have k0 := kk x rfl
  have k9 := k0.2 hB.tl p e s m args below meth c H locs A ls' hc hx hw hl'
  rw [hB.nx k0.1] at k9
  exact k9
theorem wa_lstore_n {k : Fin 4} {i : Nat} {x : Int64} {lv' : Int64 → List (Nat × Value)} (hi : (k : Nat) = i) (hn : i + 1 < M.2.2.1) (hlv : ∀ y, stl2 i (.long y) lv = lv' y) (kk : ∀ y, y = x → WA G M Z B (lv' y) st σ) : WA G M Z ((pc, .lstore_n k, 1) :: B) lv (.long x :: st) σ := by
  refine ⟨List.cons_ne_nil _ _, fun hB p e s m args below meth c H locs A ls hc hx hw hl => ?_⟩
  refine lv_lstore_n hc.1 hc.2.1 hB.dec hi hl hn (stl2_map (G := G) i (.long x) lv) (fun ls' hl' => ?_)
  rw [hlv] at hl'
  have k0 := kk x rfl
  have k9 := k0.2 hB.tl p e s m args below meth c H locs A ls' hc hx hw hl'
  rw [hB.nx k0.1] at k9
  exact k9
theorem wa_lstore {i : Nat} {x : Int64} {lv' : Int64 → List (Nat × Value)} (hn : i + 1 < M.2.2.1) (hlv : ∀ y, stl2 i (.long y) lv = lv' y) (kk : ∀ y, y = x → WA G M Z B (lv' y) st σ) : WA G M Z ((pc, .lstore i, 2) :: B) lv (.long x :: st) σ := by
  refine ⟨List.cons_ne_nil _ _, fun hB p e s m args below meth c H locs A ls hc hx hw hl => ?_⟩
  refine lv_lstore hc.1 hc.2.1 hB.dec hl hn (stl2_map (G := G) i (.long x) lv) (fun ls' hl' => ?_)
  rw [hlv] at hl'
  have k0 := kk x rfl
  have k9 := k0.2 hB.tl p e s m args below meth c H locs A ls' hc hx hw hl'
  rw [hB.nx k0.1] at k9
  exact k9
theorem wa_astore_n {k : Fin 4} {i : Nat} {x : Nat} {lv' : Nat → List (Nat × Value)} (hi : (k : Nat) = i) (hn : i < M.2.2.1) (hlv : ∀ y, stl1 i (.ref y) lv = lv' y) (kk : ∀ y, y = x → WA G M Z B (lv' y) st σ) : WA G M Z ((pc, .astore_n k, 1) :: B) lv (.ref x :: st) σ := by
  refine ⟨List.cons_ne_nil _ _, fun hB p e s m args below meth c H locs A ls hc hx hw hl => ?_⟩
  refine lv_astore_n hc.1 hc.2.1 hB.dec hi hl hn (stl1_map (G := G) i (.ref x) lv) (fun ls' hl' => ?_)
  rw [hlv] at hl'
  have k0 := kk x rfl
  have k9 := k0.2 hB.tl p e s m args below meth c H locs A ls' hc hx hw hl'
  rw [hB.nx k0.1] at k9
  exact k9
theorem wa_astore {i : Nat} {x : Nat} {lv' : Nat → List (Nat × Value)} (hn : i < M.2.2.1) (hlv : ∀ y, stl1 i (.ref y) lv = lv' y) (kk : ∀ y, y = x → WA G M Z B (lv' y) st σ) : WA G M Z ((pc, .astore i, 2) :: B) lv (.ref x :: st) σ := by
  refine ⟨List.cons_ne_nil _ _, fun hB p e s m args below meth c H locs A ls hc hx hw hl => ?_⟩
  refine lv_astore hc.1 hc.2.1 hB.dec hl hn (stl1_map (G := G) i (.ref x) lv) (fun ls' hl' => ?_)
  rw [hlv] at hl'
  have k0 := kk x rfl
  have k9 := k0.2 hB.tl p e s m args below meth c H locs A ls' hc hx hw hl'
  rw [hB.nx k0.1] at k9
  exact k9
theorem wa_istore_nD {k : Fin 4} {i : Nat} {x : Int32} (hi : (k : Nat) = i) (hn : i < M.2.2.1) (hlv : stl1 i (.int x) lv = lv') (kk : WA G M Z B lv' st σ) : WA G M Z ((pc, .istore_n k, 1) :: B) lv (.int x :: st) σ := by
  refine ⟨List.cons_ne_nil _ _, fun hB p e s m args below meth c H locs A ls hc hx hw hl => ?_⟩
  refine lv_istore_n hc.1 hc.2.1 hB.dec hi hl hn (stl1_map (G := G) i (.int x) lv) (fun ls' hl' => ?_)
  rw [hlv] at hl'
  have k0 := kk
  have k9 := k0.2 hB.tl p e s m args below meth c H locs A ls' hc hx hw hl'
  rw [hB.nx k0.1] at k9
  exact k9
theorem wa_istoreD {i : Nat} {x : Int32} (hn : i < M.2.2.1) (hlv : stl1 i (.int x) lv = lv') (kk : WA G M Z B lv' st σ) : WA G M Z ((pc, .istore i, 2) :: B) lv (.int x :: st) σ := by
  refine ⟨List.cons_ne_nil _ _, fun hB p e s m args below meth c H locs A ls hc hx hw hl => ?_⟩
  refine lv_istore hc.1 hc.2.1 hB.dec hl hn (stl1_map (G := G) i (.int x) lv) (fun ls' hl' => ?_)
  rw [hlv] at hl'
  have k0 := kk
  have k9 := k0.2 hB.tl p e s m args below meth c H locs A ls' hc hx hw hl'
  rw [hB.nx k0.1] at k9
  exact k9
theorem wa_lstore_nD {k : Fin 4} {i : Nat} {x : Int64} (hi : (k : Nat) = i) (hn : i + 1 < M.2.2.1) (hlv : stl2 i (.long x) lv = lv') (kk : WA G M Z B lv' st σ) : WA G M Z ((pc, .lstore_n k, 1) :: B) lv (.long x :: st) σ := by
  refine ⟨List.cons_ne_nil _ _, fun hB p e s m args below meth c H locs A ls hc hx hw hl => ?_⟩
  refine lv_lstore_n hc.1 hc.2.1 hB.dec hi hl hn (stl2_map (G := G) i (.long x) lv) (fun ls' hl' => ?_)
  rw [hlv] at hl'
  have k0 := kk
  have k9 := k0.2 hB.tl p e s m args below meth c H locs A ls' hc hx hw hl'
  rw [hB.nx k0.1] at k9
  exact k9
theorem wa_lstoreD {i : Nat} {x : Int64} (hn : i + 1 < M.2.2.1) (hlv : stl2 i (.long x) lv = lv') (kk : WA G M Z B lv' st σ) : WA G M Z ((pc, .lstore i, 2) :: B) lv (.long x :: st) σ := by
  refine ⟨List.cons_ne_nil _ _, fun hB p e s m args below meth c H locs A ls hc hx hw hl => ?_⟩
  refine lv_lstore hc.1 hc.2.1 hB.dec hl hn (stl2_map (G := G) i (.long x) lv) (fun ls' hl' => ?_)
  rw [hlv] at hl'
  have k0 := kk
  have k9 := k0.2 hB.tl p e s m args below meth c H locs A ls' hc hx hw hl'
  rw [hB.nx k0.1] at k9
  exact k9
theorem wa_astore_nD {k : Fin 4} {i : Nat} {x : Nat} (hi : (k : Nat) = i) (hn : i < M.2.2.1) (hlv : stl1 i (.ref x) lv = lv') (kk : WA G M Z B lv' st σ) : WA G M Z ((pc, .astore_n k, 1) :: B) lv (.ref x :: st) σ := by
  refine ⟨List.cons_ne_nil _ _, fun hB p e s m args below meth c H locs A ls hc hx hw hl => ?_⟩
  refine lv_astore_n hc.1 hc.2.1 hB.dec hi hl hn (stl1_map (G := G) i (.ref x) lv) (fun ls' hl' => ?_)
  rw [hlv] at hl'
  have k0 := kk
  have k9 := k0.2 hB.tl p e s m args below meth c H locs A ls' hc hx hw hl'
  rw [hB.nx k0.1] at k9
  exact k9
theorem wa_astoreD {i : Nat} {x : Nat} (hn : i < M.2.2.1) (hlv : stl1 i (.ref x) lv = lv') (kk : WA G M Z B lv' st σ) : WA G M Z ((pc, .astore i, 2) :: B) lv (.ref x :: st) σ := by
  refine ⟨List.cons_ne_nil _ _, fun hB p e s m args below meth c H locs A ls hc hx hw hl => ?_⟩
  refine lv_astore hc.1 hc.2.1 hB.dec hl hn (stl1_map (G := G) i (.ref x) lv) (fun ls' hl' => ?_)
  rw [hlv] at hl'
  have k0 := kk
  have k9 := k0.2 hB.tl p e s m args below meth c H locs A ls' hc hx hw hl'
  rw [hB.nx k0.1] at k9
  exact k9
theorem wa_iinc {i : Nat} {n : Int} {x v : Int32} {lv' : Int32 → List (Nat × Value)} (hv : Int32.ofInt n = v) (h : List.lookup i lv = some (.int x)) (hn : i < M.2.2.1) (hlv : ∀ y, stl1 i (.int y) lv = lv' y) (kk : ∀ y, y = x + v → WA G M Z B (lv' y) st σ) : WA G M Z ((pc, .iinc i n, 3) :: B) lv st σ := by
  refine ⟨List.cons_ne_nil _ _, fun hB p e s m args below meth c H locs A ls hc hx hw hl => ?_⟩
  subst hv
  obtain ⟨k, hk⟩ := List.mem_iff_getElem?.mp (List.mem_map_of_mem (f := cvl G) (lk_in h))
  refine lv_iinc hc.1 hc.2.1 hB.dec hl hk rfl hn (stl1_map (G := G) i (.int (x + Int32.ofInt n)) lv) (fun ls' hl' => ?_)
  rw [hlv] at hl'
  have k0 := kk _ rfl
  have k9 := k0.2 hB.tl p e s m args below meth c H locs A ls' hc hx hw hl'
  rw [hB.nx k0.1] at k9
  exact k9
theorem wa_iadd {x y : Int32}  (kk : WA G M Z B lv (.int (x + y) :: st) σ) : WA G M Z ((pc, .iadd, 1) :: B) lv (.int y :: .int x :: st) σ := by
  refine ⟨List.cons_ne_nil _ _, fun hB p e s m args below meth c H locs A ls hc hx hw hl => ?_⟩
  have k0 := kk
  have k9 := k0.2 hB.tl p e s m args below meth c H locs A ls hc hx hw hl
  rw [hB.nx k0.1] at k9
  exact lv_iadd hc.1 hc.2.1 hB.dec k9
theorem wa_isub {x y : Int32}  (kk : WA G M Z B lv (.int (x - y) :: st) σ) : WA G M Z ((pc, .isub, 1) :: B) lv (.int y :: .int x :: st) σ := by
  refine ⟨List.cons_ne_nil _ _, fun hB p e s m args below meth c H locs A ls hc hx hw hl => ?_⟩
  have k0 := kk
  have k9 := k0.2 hB.tl p e s m args below meth c H locs A ls hc hx hw hl
  rw [hB.nx k0.1] at k9
  exact lv_isub hc.1 hc.2.1 hB.dec k9
theorem wa_imul {x y : Int32}  (kk : WA G M Z B lv (.int (x * y) :: st) σ) : WA G M Z ((pc, .imul, 1) :: B) lv (.int y :: .int x :: st) σ := by
  refine ⟨List.cons_ne_nil _ _, fun hB p e s m args below meth c H locs A ls hc hx hw hl => ?_⟩
  have k0 := kk
  have k9 := k0.2 hB.tl p e s m args below meth c H locs A ls hc hx hw hl
  rw [hB.nx k0.1] at k9
  exact lv_imul hc.1 hc.2.1 hB.dec k9
theorem wa_iand {x y : Int32}  (kk : WA G M Z B lv (.int (x &&& y) :: st) σ) : WA G M Z ((pc, .iand, 1) :: B) lv (.int y :: .int x :: st) σ := by
  refine ⟨List.cons_ne_nil _ _, fun hB p e s m args below meth c H locs A ls hc hx hw hl => ?_⟩
  have k0 := kk
  have k9 := k0.2 hB.tl p e s m args below meth c H locs A ls hc hx hw hl
  rw [hB.nx k0.1] at k9
  exact lv_iand hc.1 hc.2.1 hB.dec k9
theorem wa_ior {x y : Int32}  (kk : WA G M Z B lv (.int (x ||| y) :: st) σ) : WA G M Z ((pc, .ior, 1) :: B) lv (.int y :: .int x :: st) σ := by
  refine ⟨List.cons_ne_nil _ _, fun hB p e s m args below meth c H locs A ls hc hx hw hl => ?_⟩
  have k0 := kk
  have k9 := k0.2 hB.tl p e s m args below meth c H locs A ls hc hx hw hl
  rw [hB.nx k0.1] at k9
  exact lv_ior hc.1 hc.2.1 hB.dec k9
theorem wa_ixor {x y : Int32}  (kk : WA G M Z B lv (.int (x ^^^ y) :: st) σ) : WA G M Z ((pc, .ixor, 1) :: B) lv (.int y :: .int x :: st) σ := by
  refine ⟨List.cons_ne_nil _ _, fun hB p e s m args below meth c H locs A ls hc hx hw hl => ?_⟩
  have k0 := kk
  have k9 := k0.2 hB.tl p e s m args below meth c H locs A ls hc hx hw hl
  rw [hB.nx k0.1] at k9
  exact lv_ixor hc.1 hc.2.1 hB.dec k9
theorem wa_ishl {x y : Int32}  (kk : WA G M Z B lv (.int (x <<< (y &&& 31)) :: st) σ) : WA G M Z ((pc, .ishl, 1) :: B) lv (.int y :: .int x :: st) σ := by
  refine ⟨List.cons_ne_nil _ _, fun hB p e s m args below meth c H locs A ls hc hx hw hl => ?_⟩
  have k0 := kk
  have k9 := k0.2 hB.tl p e s m args below meth c H locs A ls hc hx hw hl
  rw [hB.nx k0.1] at k9
  exact lv_ishl hc.1 hc.2.1 hB.dec k9
theorem wa_ishr {x y : Int32}  (kk : WA G M Z B lv (.int (x >>> (y &&& 31)) :: st) σ) : WA G M Z ((pc, .ishr, 1) :: B) lv (.int y :: .int x :: st) σ := by
  refine ⟨List.cons_ne_nil _ _, fun hB p e s m args below meth c H locs A ls hc hx hw hl => ?_⟩
  have k0 := kk
  have k9 := k0.2 hB.tl p e s m args below meth c H locs A ls hc hx hw hl
  rw [hB.nx k0.1] at k9
  exact lv_ishr hc.1 hc.2.1 hB.dec k9
theorem wa_iushr {x y : Int32}  (kk : WA G M Z B lv (.int ((x.toUInt32 >>> (y.toUInt32 &&& Int32.toUInt32 31)).toInt32) :: st) σ) : WA G M Z ((pc, .iushr, 1) :: B) lv (.int y :: .int x :: st) σ := by
  refine ⟨List.cons_ne_nil _ _, fun hB p e s m args below meth c H locs A ls hc hx hw hl => ?_⟩
  have k0 := kk
  have k9 := k0.2 hB.tl p e s m args below meth c H locs A ls hc hx hw hl
  rw [hB.nx k0.1] at k9
  exact lv_iushr hc.1 hc.2.1 hB.dec rfl k9
theorem wa_idiv {x y : Int32} (hne : ¬ y = 0) (kk : WA G M Z B lv (.int (x / y) :: st) σ) : WA G M Z ((pc, .idiv, 1) :: B) lv (.int y :: .int x :: st) σ := by
  refine ⟨List.cons_ne_nil _ _, fun hB p e s m args below meth c H locs A ls hc hx hw hl => ?_⟩
  have k0 := kk
  have k9 := k0.2 hB.tl p e s m args below meth c H locs A ls hc hx hw hl
  rw [hB.nx k0.1] at k9
  exact lv_idiv hc.1 hc.2.1 hB.dec hne k9
theorem wa_irem {x y : Int32} (hne : ¬ y = 0) (kk : WA G M Z B lv (.int (x - x / y * y) :: st) σ) : WA G M Z ((pc, .irem, 1) :: B) lv (.int y :: .int x :: st) σ := by
  refine ⟨List.cons_ne_nil _ _, fun hB p e s m args below meth c H locs A ls hc hx hw hl => ?_⟩
  have k0 := kk
  have k9 := k0.2 hB.tl p e s m args below meth c H locs A ls hc hx hw hl
  rw [hB.nx k0.1] at k9
  exact lv_irem hc.1 hc.2.1 hB.dec hne k9
theorem wa_ineg {x : Int32}  (kk : WA G M Z B lv (.int (-x) :: st) σ) : WA G M Z ((pc, .ineg, 1) :: B) lv (.int x :: st) σ := by
  refine ⟨List.cons_ne_nil _ _, fun hB p e s m args below meth c H locs A ls hc hx hw hl => ?_⟩
  have k0 := kk
  have k9 := k0.2 hB.tl p e s m args below meth c H locs A ls hc hx hw hl
  rw [hB.nx k0.1] at k9
  exact lv_ineg hc.1 hc.2.1 hB.dec k9
theorem wa_ladd {x y : Int64}  (kk : WA G M Z B lv (.long (x + y) :: st) σ) : WA G M Z ((pc, .ladd, 1) :: B) lv (.long y :: .long x :: st) σ := by
  refine ⟨List.cons_ne_nil _ _, fun hB p e s m args below meth c H locs A ls hc hx hw hl => ?_⟩
  have k0 := kk
  have k9 := k0.2 hB.tl p e s m args below meth c H locs A ls hc hx hw hl
  rw [hB.nx k0.1] at k9
  exact lv_ladd hc.1 hc.2.1 hB.dec k9
theorem wa_lsub {x y : Int64}  (kk : WA G M Z B lv (.long (x - y) :: st) σ) : WA G M Z ((pc, .lsub, 1) :: B) lv (.long y :: .long x :: st) σ := by
  refine ⟨List.cons_ne_nil _ _, fun hB p e s m args below meth c H locs A ls hc hx hw hl => ?_⟩
  have k0 := kk
  have k9 := k0.2 hB.tl p e s m args below meth c H locs A ls hc hx hw hl
  rw [hB.nx k0.1] at k9
  exact lv_lsub hc.1 hc.2.1 hB.dec k9
theorem wa_lmul {x y : Int64}  (kk : WA G M Z B lv (.long (x * y) :: st) σ) : WA G M Z ((pc, .lmul, 1) :: B) lv (.long y :: .long x :: st) σ := by
  refine ⟨List.cons_ne_nil _ _, fun hB p e s m args below meth c H locs A ls hc hx hw hl => ?_⟩
  have k0 := kk
  have k9 := k0.2 hB.tl p e s m args below meth c H locs A ls hc hx hw hl
  rw [hB.nx k0.1] at k9
  exact lv_lmul hc.1 hc.2.1 hB.dec k9
theorem wa_land {x y : Int64}  (kk : WA G M Z B lv (.long (x &&& y) :: st) σ) : WA G M Z ((pc, .land, 1) :: B) lv (.long y :: .long x :: st) σ := by
  refine ⟨List.cons_ne_nil _ _, fun hB p e s m args below meth c H locs A ls hc hx hw hl => ?_⟩
  have k0 := kk
  have k9 := k0.2 hB.tl p e s m args below meth c H locs A ls hc hx hw hl
  rw [hB.nx k0.1] at k9
  exact lv_land hc.1 hc.2.1 hB.dec k9
theorem wa_lor {x y : Int64}  (kk : WA G M Z B lv (.long (x ||| y) :: st) σ) : WA G M Z ((pc, .lor, 1) :: B) lv (.long y :: .long x :: st) σ := by
  refine ⟨List.cons_ne_nil _ _, fun hB p e s m args below meth c H locs A ls hc hx hw hl => ?_⟩
  have k0 := kk
  have k9 := k0.2 hB.tl p e s m args below meth c H locs A ls hc hx hw hl
  rw [hB.nx k0.1] at k9
  exact lv_lor hc.1 hc.2.1 hB.dec k9
theorem wa_lxor {x y : Int64}  (kk : WA G M Z B lv (.long (x ^^^ y) :: st) σ) : WA G M Z ((pc, .lxor, 1) :: B) lv (.long y :: .long x :: st) σ := by
  refine ⟨List.cons_ne_nil _ _, fun hB p e s m args below meth c H locs A ls hc hx hw hl => ?_⟩
  have k0 := kk
  have k9 := k0.2 hB.tl p e s m args below meth c H locs A ls hc hx hw hl
  rw [hB.nx k0.1] at k9
  exact lv_lxor hc.1 hc.2.1 hB.dec k9
theorem wa_lshl {x : Int64} {y : Int32}  (kk : WA G M Z B lv (.long (x <<< (y.toInt64 &&& 63)) :: st) σ) : WA G M Z ((pc, .lshl, 1) :: B) lv (.int y :: .long x :: st) σ := by
  refine ⟨List.cons_ne_nil _ _, fun hB p e s m args below meth c H locs A ls hc hx hw hl => ?_⟩
  have k0 := kk
  have k9 := k0.2 hB.tl p e s m args below meth c H locs A ls hc hx hw hl
  rw [hB.nx k0.1] at k9
  exact lv_lshl hc.1 hc.2.1 hB.dec rfl k9
theorem wa_lshr {x : Int64} {y : Int32}  (kk : WA G M Z B lv (.long (x >>> (y.toInt64 &&& 63)) :: st) σ) : WA G M Z ((pc, .lshr, 1) :: B) lv (.int y :: .long x :: st) σ := by
  refine ⟨List.cons_ne_nil _ _, fun hB p e s m args below meth c H locs A ls hc hx hw hl => ?_⟩
  have k0 := kk
  have k9 := k0.2 hB.tl p e s m args below meth c H locs A ls hc hx hw hl
  rw [hB.nx k0.1] at k9
  exact lv_lshr hc.1 hc.2.1 hB.dec rfl k9
theorem wa_lushr {x : Int64} {y : Int32}  (kk : WA G M Z B lv (.long ((x.toUInt64 >>> (y.toInt64.toUInt64 &&& Int64.toUInt64 63)).toInt64) :: st) σ) : WA G M Z ((pc, .lushr, 1) :: B) lv (.int y :: .long x :: st) σ := by
  refine ⟨List.cons_ne_nil _ _, fun hB p e s m args below meth c H locs A ls hc hx hw hl => ?_⟩
  have k0 := kk
  have k9 := k0.2 hB.tl p e s m args below meth c H locs A ls hc hx hw hl
  rw [hB.nx k0.1] at k9
  exact lv_lushr hc.1 hc.2.1 hB.dec rfl k9
theorem wa_ldiv {x y : Int64} (hne : ¬ y = 0) (kk : WA G M Z B lv (.long (x / y) :: st) σ) : WA G M Z ((pc, .ldiv, 1) :: B) lv (.long y :: .long x :: st) σ := by
  refine ⟨List.cons_ne_nil _ _, fun hB p e s m args below meth c H locs A ls hc hx hw hl => ?_⟩
  have k0 := kk
  have k9 := k0.2 hB.tl p e s m args below meth c H locs A ls hc hx hw hl
  rw [hB.nx k0.1] at k9
  exact lv_ldiv hc.1 hc.2.1 hB.dec hne k9
theorem wa_lrem {x y : Int64} (hne : ¬ y = 0) (kk : WA G M Z B lv (.long (x - x / y * y) :: st) σ) : WA G M Z ((pc, .lrem, 1) :: B) lv (.long y :: .long x :: st) σ := by
  refine ⟨List.cons_ne_nil _ _, fun hB p e s m args below meth c H locs A ls hc hx hw hl => ?_⟩
  have k0 := kk
  have k9 := k0.2 hB.tl p e s m args below meth c H locs A ls hc hx hw hl
  rw [hB.nx k0.1] at k9
  exact lv_lrem hc.1 hc.2.1 hB.dec hne k9
theorem wa_lneg {x : Int64}  (kk : WA G M Z B lv (.long (-x) :: st) σ) : WA G M Z ((pc, .lneg, 1) :: B) lv (.long x :: st) σ := by
  refine ⟨List.cons_ne_nil _ _, fun hB p e s m args below meth c H locs A ls hc hx hw hl => ?_⟩
  have k0 := kk
  have k9 := k0.2 hB.tl p e s m args below meth c H locs A ls hc hx hw hl
  rw [hB.nx k0.1] at k9
  exact lv_lneg hc.1 hc.2.1 hB.dec k9
theorem wa_lcmp {x y : Int64}  (kk : WA G M Z B lv (.int (lg_cmp x y) :: st) σ) : WA G M Z ((pc, .lcmp, 1) :: B) lv (.long y :: .long x :: st) σ := by
  refine ⟨List.cons_ne_nil _ _, fun hB p e s m args below meth c H locs A ls hc hx hw hl => ?_⟩
  have k0 := kk
  have k9 := k0.2 hB.tl p e s m args below meth c H locs A ls hc hx hw hl
  rw [hB.nx k0.1] at k9
  exact W.lcmp hc.1 hc.2.1 hB.dec k9
theorem wa_i2l {x : Int32}  (kk : WA G M Z B lv (.long x.toInt64 :: st) σ) : WA G M Z ((pc, .i2l, 1) :: B) lv (.int x :: st) σ := by
  refine ⟨List.cons_ne_nil _ _, fun hB p e s m args below meth c H locs A ls hc hx hw hl => ?_⟩
  have k0 := kk
  have k9 := k0.2 hB.tl p e s m args below meth c H locs A ls hc hx hw hl
  rw [hB.nx k0.1] at k9
  exact lv_i2l hc.1 hc.2.1 hB.dec rfl k9
theorem wa_l2i {x : Int64}  (kk : WA G M Z B lv (.int x.toInt32 :: st) σ) : WA G M Z ((pc, .l2i, 1) :: B) lv (.long x :: st) σ := by
  refine ⟨List.cons_ne_nil _ _, fun hB p e s m args below meth c H locs A ls hc hx hw hl => ?_⟩
  have k0 := kk
  have k9 := k0.2 hB.tl p e s m args below meth c H locs A ls hc hx hw hl
  rw [hB.nx k0.1] at k9
  exact lv_l2i hc.1 hc.2.1 hB.dec rfl k9
theorem wa_i2b {x : Int32}  (kk : WA G M Z B lv (.int x.toInt8.toInt32 :: st) σ) : WA G M Z ((pc, .i2b, 1) :: B) lv (.int x :: st) σ := by
  refine ⟨List.cons_ne_nil _ _, fun hB p e s m args below meth c H locs A ls hc hx hw hl => ?_⟩
  have k0 := kk
  have k9 := k0.2 hB.tl p e s m args below meth c H locs A ls hc hx hw hl
  rw [hB.nx k0.1] at k9
  exact lv_i2b hc.1 hc.2.1 hB.dec rfl k9
theorem wa_i2c {x : Int32}  (kk : WA G M Z B lv (.int (x.toUInt32 % 65536).toInt32 :: st) σ) : WA G M Z ((pc, .i2c, 1) :: B) lv (.int x :: st) σ := by
  refine ⟨List.cons_ne_nil _ _, fun hB p e s m args below meth c H locs A ls hc hx hw hl => ?_⟩
  have k0 := kk
  have k9 := k0.2 hB.tl p e s m args below meth c H locs A ls hc hx hw hl
  rw [hB.nx k0.1] at k9
  exact lv_i2c hc.1 hc.2.1 hB.dec rfl k9
theorem wa_dup {v : Value} (hv : v.category = 1) (kk : WA G M Z B lv (v :: v :: st) σ) : WA G M Z ((pc, .dup, 1) :: B) lv (v :: st) σ := by
  refine ⟨List.cons_ne_nil _ _, fun hB p e s m args below meth c H locs A ls hc hx hw hl => ?_⟩
  have k0 := kk
  have k9 := k0.2 hB.tl p e s m args below meth c H locs A ls hc hx hw hl
  rw [hB.nx k0.1] at k9
  exact lv_dup hc.1 hc.2.1 hB.dec (by rw [cv_cat]; exact hv) k9
theorem wa_dup2 {v w : Value} (hv : v.category = 1) (hw1 : w.category = 1) (kk : WA G M Z B lv (v :: w :: v :: w :: st) σ) : WA G M Z ((pc, .dup2, 1) :: B) lv (v :: w :: st) σ := by
  refine ⟨List.cons_ne_nil _ _, fun hB p e s m args below meth c H locs A ls hc hx hw hl => ?_⟩
  have k0 := kk
  have k9 := k0.2 hB.tl p e s m args below meth c H locs A ls hc hx hw hl
  rw [hB.nx k0.1] at k9
  exact lv_dup2_11 hc.1 hc.2.1 hB.dec (by rw [cv_cat]; exact hv) (by rw [cv_cat]; exact hw1) k9
theorem wa_dup2l {x : Int64}  (kk : WA G M Z B lv (.long x :: .long x :: st) σ) : WA G M Z ((pc, .dup2, 1) :: B) lv (.long x :: st) σ := by
  refine ⟨List.cons_ne_nil _ _, fun hB p e s m args below meth c H locs A ls hc hx hw hl => ?_⟩
  have k0 := kk
  have k9 := k0.2 hB.tl p e s m args below meth c H locs A ls hc hx hw hl
  rw [hB.nx k0.1] at k9
  exact lv_dup2_2 hc.1 hc.2.1 hB.dec rfl k9
theorem wa_pop {v : Value} (hv : v.category = 1) (kk : WA G M Z B lv (st) σ) : WA G M Z ((pc, .pop, 1) :: B) lv (v :: st) σ := by
  refine ⟨List.cons_ne_nil _ _, fun hB p e s m args below meth c H locs A ls hc hx hw hl => ?_⟩
  have k0 := kk
  have k9 := k0.2 hB.tl p e s m args below meth c H locs A ls hc hx hw hl
  rw [hB.nx k0.1] at k9
  exact lv_pop hc.1 hc.2.1 hB.dec (by rw [cv_cat]; exact hv) k9
theorem wa_topl {x : Int64} (kk : ∀ y, x = y → WA G M Z B lv (.long y :: st) σ) : WA G M Z B lv (.long x :: st) σ := kk x rfl
theorem wa_rw {x y : Int32} (h : x = y) (kk : WA G M Z B lv (.int y :: st) σ) : WA G M Z B lv (.int x :: st) σ := h ▸ kk
theorem wa_rwl {x y : Int64} (h : x = y) (kk : WA G M Z B lv (.long y :: st) σ) : WA G M Z B lv (.long x :: st) σ := h ▸ kk
theorem wa_top {x : Int32} (kk : ∀ y, x = y → WA G M Z B lv (.int y :: st) σ) : WA G M Z B lv (.int x :: st) σ := kk x rfl
theorem wa_if_eq {x : Int32} {off : Int} {Bt : Blk} (hBt : Chn M.2.1 Bt) (ht : (pc : Int) + off = (hpc Bt : Int)) (kt : x = 0 → WA G M Z Bt lv st σ) (kf : ¬ x = 0 → WA G M Z B lv st σ) : WA G M Z ((pc, .ifCond .eq off, 3) :: B) lv (.int x :: st) σ := by
  refine ⟨List.cons_ne_nil _ _, fun hB p e s m args below meth c H locs A ls hc hx hw hl => ?_⟩
  refine lv_if_eq hc.1 hc.2.1 hB.dec ht (fun h => (kt h).2 hBt p e s m args below meth c H locs A ls hc hx hw hl) (fun h => ?_)
  have k0 := kf h
  have k9 := k0.2 hB.tl p e s m args below meth c H locs A ls hc hx hw hl
  rw [hB.nx k0.1] at k9
  exact k9
theorem wa_if_ne {x : Int32} {off : Int} {Bt : Blk} (hBt : Chn M.2.1 Bt) (ht : (pc : Int) + off = (hpc Bt : Int)) (kt : ¬ x = 0 → WA G M Z Bt lv st σ) (kf : x = 0 → WA G M Z B lv st σ) : WA G M Z ((pc, .ifCond .ne off, 3) :: B) lv (.int x :: st) σ := by
  refine ⟨List.cons_ne_nil _ _, fun hB p e s m args below meth c H locs A ls hc hx hw hl => ?_⟩
  refine lv_if_ne hc.1 hc.2.1 hB.dec ht (fun h => (kt h).2 hBt p e s m args below meth c H locs A ls hc hx hw hl) (fun h => ?_)
  have k0 := kf h
  have k9 := k0.2 hB.tl p e s m args below meth c H locs A ls hc hx hw hl
  rw [hB.nx k0.1] at k9
  exact k9
theorem wa_if_lt {x : Int32} {off : Int} {Bt : Blk} (hBt : Chn M.2.1 Bt) (ht : (pc : Int) + off = (hpc Bt : Int)) (kt : x < 0 → WA G M Z Bt lv st σ) (kf : ¬ x < 0 → WA G M Z B lv st σ) : WA G M Z ((pc, .ifCond .lt off, 3) :: B) lv (.int x :: st) σ := by
  refine ⟨List.cons_ne_nil _ _, fun hB p e s m args below meth c H locs A ls hc hx hw hl => ?_⟩
  refine lv_if_lt hc.1 hc.2.1 hB.dec ht (fun h => (kt h).2 hBt p e s m args below meth c H locs A ls hc hx hw hl) (fun h => ?_)
  have k0 := kf h
  have k9 := k0.2 hB.tl p e s m args below meth c H locs A ls hc hx hw hl
  rw [hB.nx k0.1] at k9
  exact k9
theorem wa_if_ge {x : Int32} {off : Int} {Bt : Blk} (hBt : Chn M.2.1 Bt) (ht : (pc : Int) + off = (hpc Bt : Int)) (kt : 0 ≤ x → WA G M Z Bt lv st σ) (kf : ¬ 0 ≤ x → WA G M Z B lv st σ) : WA G M Z ((pc, .ifCond .ge off, 3) :: B) lv (.int x :: st) σ := by
  refine ⟨List.cons_ne_nil _ _, fun hB p e s m args below meth c H locs A ls hc hx hw hl => ?_⟩
  refine lv_if_ge hc.1 hc.2.1 hB.dec ht (fun h => (kt h).2 hBt p e s m args below meth c H locs A ls hc hx hw hl) (fun h => ?_)
  have k0 := kf h
  have k9 := k0.2 hB.tl p e s m args below meth c H locs A ls hc hx hw hl
  rw [hB.nx k0.1] at k9
  exact k9
theorem wa_if_gt {x : Int32} {off : Int} {Bt : Blk} (hBt : Chn M.2.1 Bt) (ht : (pc : Int) + off = (hpc Bt : Int)) (kt : 0 < x → WA G M Z Bt lv st σ) (kf : ¬ 0 < x → WA G M Z B lv st σ) : WA G M Z ((pc, .ifCond .gt off, 3) :: B) lv (.int x :: st) σ := by
  refine ⟨List.cons_ne_nil _ _, fun hB p e s m args below meth c H locs A ls hc hx hw hl => ?_⟩
  refine lv_if_gt hc.1 hc.2.1 hB.dec ht (fun h => (kt h).2 hBt p e s m args below meth c H locs A ls hc hx hw hl) (fun h => ?_)
  have k0 := kf h
  have k9 := k0.2 hB.tl p e s m args below meth c H locs A ls hc hx hw hl
  rw [hB.nx k0.1] at k9
  exact k9
theorem wa_if_le {x : Int32} {off : Int} {Bt : Blk} (hBt : Chn M.2.1 Bt) (ht : (pc : Int) + off = (hpc Bt : Int)) (kt : x ≤ 0 → WA G M Z Bt lv st σ) (kf : ¬ x ≤ 0 → WA G M Z B lv st σ) : WA G M Z ((pc, .ifCond .le off, 3) :: B) lv (.int x :: st) σ := by
  refine ⟨List.cons_ne_nil _ _, fun hB p e s m args below meth c H locs A ls hc hx hw hl => ?_⟩
  refine lv_if_le hc.1 hc.2.1 hB.dec ht (fun h => (kt h).2 hBt p e s m args below meth c H locs A ls hc hx hw hl) (fun h => ?_)
  have k0 := kf h
  have k9 := k0.2 hB.tl p e s m args below meth c H locs A ls hc hx hw hl
  rw [hB.nx k0.1] at k9
  exact k9
theorem wa_icmp_eq {x y : Int32} {off : Int} {Bt : Blk} (hBt : Chn M.2.1 Bt) (ht : (pc : Int) + off = (hpc Bt : Int)) (kt : x = y → WA G M Z Bt lv st σ) (kf : ¬ x = y → WA G M Z B lv st σ) : WA G M Z ((pc, .if_icmp .eq off, 3) :: B) lv (.int y :: .int x :: st) σ := by
  refine ⟨List.cons_ne_nil _ _, fun hB p e s m args below meth c H locs A ls hc hx hw hl => ?_⟩
  refine lv_icmp_eq hc.1 hc.2.1 hB.dec ht (fun h => (kt h).2 hBt p e s m args below meth c H locs A ls hc hx hw hl) (fun h => ?_)
  have k0 := kf h
  have k9 := k0.2 hB.tl p e s m args below meth c H locs A ls hc hx hw hl
  rw [hB.nx k0.1] at k9
  exact k9
theorem wa_icmp_ne {x y : Int32} {off : Int} {Bt : Blk} (hBt : Chn M.2.1 Bt) (ht : (pc : Int) + off = (hpc Bt : Int)) (kt : ¬ x = y → WA G M Z Bt lv st σ) (kf : x = y → WA G M Z B lv st σ) : WA G M Z ((pc, .if_icmp .ne off, 3) :: B) lv (.int y :: .int x :: st) σ := by
  refine ⟨List.cons_ne_nil _ _, fun hB p e s m args below meth c H locs A ls hc hx hw hl => ?_⟩
  refine lv_icmp_ne hc.1 hc.2.1 hB.dec ht (fun h => (kt h).2 hBt p e s m args below meth c H locs A ls hc hx hw hl) (fun h => ?_)
  have k0 := kf h
  have k9 := k0.2 hB.tl p e s m args below meth c H locs A ls hc hx hw hl
  rw [hB.nx k0.1] at k9
  exact k9
theorem wa_icmp_lt {x y : Int32} {off : Int} {Bt : Blk} (hBt : Chn M.2.1 Bt) (ht : (pc : Int) + off = (hpc Bt : Int)) (kt : x < y → WA G M Z Bt lv st σ) (kf : ¬ x < y → WA G M Z B lv st σ) : WA G M Z ((pc, .if_icmp .lt off, 3) :: B) lv (.int y :: .int x :: st) σ := by
  refine ⟨List.cons_ne_nil _ _, fun hB p e s m args below meth c H locs A ls hc hx hw hl => ?_⟩
  refine lv_icmp_lt hc.1 hc.2.1 hB.dec ht (fun h => (kt h).2 hBt p e s m args below meth c H locs A ls hc hx hw hl) (fun h => ?_)
  have k0 := kf h
  have k9 := k0.2 hB.tl p e s m args below meth c H locs A ls hc hx hw hl
  rw [hB.nx k0.1] at k9
  exact k9
theorem wa_icmp_ge {x y : Int32} {off : Int} {Bt : Blk} (hBt : Chn M.2.1 Bt) (ht : (pc : Int) + off = (hpc Bt : Int)) (kt : y ≤ x → WA G M Z Bt lv st σ) (kf : ¬ y ≤ x → WA G M Z B lv st σ) : WA G M Z ((pc, .if_icmp .ge off, 3) :: B) lv (.int y :: .int x :: st) σ := by
  refine ⟨List.cons_ne_nil _ _, fun hB p e s m args below meth c H locs A ls hc hx hw hl => ?_⟩
  refine lv_icmp_ge hc.1 hc.2.1 hB.dec ht (fun h => (kt h).2 hBt p e s m args below meth c H locs A ls hc hx hw hl) (fun h => ?_)
  have k0 := kf h
  have k9 := k0.2 hB.tl p e s m args below meth c H locs A ls hc hx hw hl
  rw [hB.nx k0.1] at k9
  exact k9
theorem wa_icmp_gt {x y : Int32} {off : Int} {Bt : Blk} (hBt : Chn M.2.1 Bt) (ht : (pc : Int) + off = (hpc Bt : Int)) (kt : y < x → WA G M Z Bt lv st σ) (kf : ¬ y < x → WA G M Z B lv st σ) : WA G M Z ((pc, .if_icmp .gt off, 3) :: B) lv (.int y :: .int x :: st) σ := by
  refine ⟨List.cons_ne_nil _ _, fun hB p e s m args below meth c H locs A ls hc hx hw hl => ?_⟩
  refine lv_icmp_gt hc.1 hc.2.1 hB.dec ht (fun h => (kt h).2 hBt p e s m args below meth c H locs A ls hc hx hw hl) (fun h => ?_)
  have k0 := kf h
  have k9 := k0.2 hB.tl p e s m args below meth c H locs A ls hc hx hw hl
  rw [hB.nx k0.1] at k9
  exact k9
theorem wa_icmp_le {x y : Int32} {off : Int} {Bt : Blk} (hBt : Chn M.2.1 Bt) (ht : (pc : Int) + off = (hpc Bt : Int)) (kt : x ≤ y → WA G M Z Bt lv st σ) (kf : ¬ x ≤ y → WA G M Z B lv st σ) : WA G M Z ((pc, .if_icmp .le off, 3) :: B) lv (.int y :: .int x :: st) σ := by
  refine ⟨List.cons_ne_nil _ _, fun hB p e s m args below meth c H locs A ls hc hx hw hl => ?_⟩
  refine lv_icmp_le hc.1 hc.2.1 hB.dec ht (fun h => (kt h).2 hBt p e s m args below meth c H locs A ls hc hx hw hl) (fun h => ?_)
  have k0 := kf h
  have k9 := k0.2 hB.tl p e s m args below meth c H locs A ls hc hx hw hl
  rw [hB.nx k0.1] at k9
  exact k9
theorem wa_goto {off : Int} {Bt : Blk} (hBt : Chn M.2.1 Bt) (ht : (pc : Int) + off = (hpc Bt : Int)) (kt : WA G M Z Bt lv st σ) : WA G M Z ((pc, .goto off, 3) :: B) lv st σ := by
  refine ⟨List.cons_ne_nil _ _, fun hB p e s m args below meth c H locs A ls hc hx hw hl => ?_⟩
  exact lv_goto hc.1 hc.2.1 hB.dec ht (kt.2 hBt p e s m args below meth c H locs A ls hc hx hw hl)
theorem wa_tIn {dflt lo hi off : Int} {offs : Array Int} {n : Nat} {x : Int32} {Bt : Blk} (h1 : ¬ x.toInt < lo) (h2 : ¬ hi < x.toInt) (ho : offs[(x.toInt - lo).toNat]? = some off) (hBt : Chn M.2.1 Bt) (ht : (pc : Int) + off = (hpc Bt : Int)) (kt : WA G M Z Bt lv st σ) : WA G M Z ((pc, .tableswitch dflt lo hi offs, n) :: B) lv (.int x :: st) σ := by
  refine ⟨List.cons_ne_nil _ _, fun hB p e s m args below meth c H locs A ls hc hx hw hl => ?_⟩
  exact lv_tableIn hc.1 hc.2.1 hB.dec h1 h2 ho ht (kt.2 hBt p e s m args below meth c H locs A ls hc hx hw hl)
theorem wa_tOut {dflt lo hi : Int} {offs : Array Int} {n : Nat} {x : Int32} {Bt : Blk} (h : x.toInt < lo ∨ hi < x.toInt) (hBt : Chn M.2.1 Bt) (ht : (pc : Int) + dflt = (hpc Bt : Int)) (kt : WA G M Z Bt lv st σ) : WA G M Z ((pc, .tableswitch dflt lo hi offs, n) :: B) lv (.int x :: st) σ := by
  refine ⟨List.cons_ne_nil _ _, fun hB p e s m args below meth c H locs A ls hc hx hw hl => ?_⟩
  exact lv_tableOut hc.1 hc.2.1 hB.dec h ht (kt.2 hBt p e s m args below meth c H locs A ls hc hx hw hl)
theorem wa_lsw {dflt off : Int} {ps : Array (Int × Int)} {n : Nat} {x : Int32} {Bt : Blk} (hp : (ps.toList.zip (ps.toList.drop 1)).all (fun (a, next) => a.1 < next.1) = true) (ho : Op.lookupswitch.offset ps.toList dflt x.toInt = off) (hBt : Chn M.2.1 Bt) (ht : (pc : Int) + off = (hpc Bt : Int)) (kt : WA G M Z Bt lv st σ) : WA G M Z ((pc, .lookupswitch dflt ps, n) :: B) lv (.int x :: st) σ := by
  refine ⟨List.cons_ne_nil _ _, fun hB p e s m args below meth c H locs A ls hc hx hw hl => ?_⟩
  exact lv_lookup hc.1 hc.2.1 hB.dec hp ho ht (kt.2 hBt p e s m args below meth c H locs A ls hc hx hw hl)
theorem wa_return {d : Nat} {Q : Option Value → St → Prop} {st : List Value} (hr : M.2.2.2.1 = none) (hk : M.2.2.2.2.2 = 0) (hq : Q none σ) : WA G M (ZM G M d Q) ((pc, .return_, 1) :: B) lv [] σ := by
  refine ⟨List.cons_ne_nil _ _, fun hB p e s m args below meth c H locs A ls hc hx hw hl => ?_⟩
  show W p G.1 e (rmd d) s m args below meth c H locs 0 0 (MQ below (QC G Q A M.2.2.2.2.2) args s 0 0 A) _
  rw [hk]
  exact W.vret hc.1 hc.2.1 (hc.2.2.1.trans hr) (fun t ht hW => ⟨⟨σ, rfl, hq, by rw [ht]; exact hw.1, va_K.moved hW.alike hc.2.2.2.2.2.2.2.2.2.2.1, hw.2.1⟩, hw.2.2.F ht⟩) hw.2.2.2.2 hB.dec hc.2.2.2.2.2.2.1
theorem wa_ireturn {d : Nat} {Q : Option Value → St → Prop} {x : Int32} (hr : M.2.2.2.1 = some .int) (hk : M.2.2.2.2.2 = 1) (hq : Q (some (.int x)) σ) : WA G M (ZM G M d Q) ((pc, .ireturn, 1) :: B) lv [.int x] σ := by
  refine ⟨List.cons_ne_nil _ _, fun hB p e s m args below meth c H locs A ls hc hx hw hl => ?_⟩
  show W p G.1 e (rmd d) s m args below meth c H locs 0 0 (MQ below (QC G Q A M.2.2.2.2.2) args s 0 0 A) _
  rw [hk]
  exact W.iret hc.1 hc.2.1 (hc.2.2.1.trans hr) (fun t ht hW => ⟨⟨x, σ, rfl, hq, by rw [ht]; exact hw.1, va_K.moved hW.alike hc.2.2.2.2.2.2.2.2.2.2.1, hw.2.1⟩, hw.2.2.F ht⟩) hw.2.2.2.2 hB.dec hc.2.2.2.2.2.2.1
theorem bI_nar (b : Bool) : narrow .boolean (.int (bI b)) = .int (bI b) := by cases b <;> decide
theorem wa_zreturn {d : Nat} {Q : Option Value → St → Prop} {x : Int32} (b : Bool) (hx : x = bI b) (hr : M.2.2.2.1 = some .boolean) (hk : M.2.2.2.2.2 = 1) (hq : Q (some (.int (bI b))) σ) : WA G M (ZM G M d Q) ((pc, .ireturn, 1) :: B) lv [.int x] σ := by
  subst hx
  refine ⟨List.cons_ne_nil _ _, fun hB p e s m args below meth c H locs A ls hc hx hw hl => ?_⟩
  show W p G.1 e (rmd d) s m args below meth c H locs 0 0 (MQ below (QC G Q A M.2.2.2.2.2) args s 0 0 A) _
  rw [hk]
  exact W.zret hc.1 hc.2.1 (hc.2.2.1.trans hr) (bI_nar b) (fun t ht hW => ⟨⟨bI b, σ, rfl, hq, by rw [ht]; exact hw.1, va_K.moved hW.alike hc.2.2.2.2.2.2.2.2.2.2.1, hw.2.1⟩, hw.2.2.F ht⟩) hw.2.2.2.2 hB.dec hc.2.2.2.2.2.2.1
theorem wa_lreturn {d : Nat} {Q : Option Value → St → Prop} {x : Int64} (hr : M.2.2.2.1 = some .long) (hk : M.2.2.2.2.2 = 2) (hq : Q (some (.long x)) σ) : WA G M (ZM G M d Q) ((pc, .lreturn, 1) :: B) lv [.long x] σ := by
  refine ⟨List.cons_ne_nil _ _, fun hB p e s m args below meth c H locs A ls hc hx hw hl => ?_⟩
  show W p G.1 e (rmd d) s m args below meth c H locs 0 0 (MQ below (QC G Q A M.2.2.2.2.2) args s 0 0 A) _
  rw [hk]
  exact W.lret hc.1 hc.2.1 (hc.2.2.1.trans hr) (fun t ht hW => ⟨⟨x, σ, rfl, hq, by rw [ht]; exact hw.1, va_K.moved hW.alike hc.2.2.2.2.2.2.2.2.2.2.1, hw.2.1⟩, hw.2.2.F ht⟩) hw.2.2.2.2 hB.dec hc.2.2.2.2.2.2.1
/-- a class of the plain machine: its table, its words, its fields' kinds -/
def ClsOK (ci : Nat) : Prop := ∃ (C : String) (T : u_T) (N : Nat) (ty0 : Nat → FieldType), vwCl[ci]? = some (C, T, N) ∧ (∀ w ∈ u_ws C T N, w ∈ allW) ∧ (∀ k, k < N → parseFieldDescriptor (T k).2.2.1 = some (ty0 k)) ∧ (∀ a, a < N → ∀ b, b < N → a ≠ b → (T a).2.1 ≠ (T b).2.1) ∧ (fkL.getD ci []).length = N
/-- the link of a field: class, place, kind, whether it is final -/
def FLk (own : String) (idx ci k kd : Nat) (fin : Bool) : Prop := ∃ (C : String) (T : u_T) (N : Nat) (ref n d9 : String), vwCl[ci]? = some (C, T, N) ∧ k < N ∧ T k = (ref, n, d9, fin) ∧ (Cond.fieldLink own idx ref n d9 ∈ allW ∨ ∃ host, (own, idx, ref, n, d9, host) ∈ kNF) ∧ (fkL.getD ci []).getD k 0 = kd ∧ (kd = 0 → parseFieldDescriptor d9 = some .int) ∧ (kd = 1 → parseFieldDescriptor d9 = some .boolean) ∧ (kd = 2 → parseFieldDescriptor d9 = some .long) ∧ (kd = 4 → parseFieldDescriptor d9 = some (.array .byte))
def ofs (G : kG9) (σ : St) (q ci : Nat) : List Value := (List.range (fkL.getD ci []).length).map fun k => fv G σ q k ((fkL.getD ci []).getD k 0)
theorem ofs_at (G : kG9) (σ : St) (q : Nat) {ci k kd : Nat} (hl : k < (fkL.getD ci []).length) (hk : (fkL.getD ci []).getD k 0 = kd) : (ofs G σ q ci)[k]? = some (fv G σ q k kd) := by
  rw [ofs, List.getElem?_map, List.getElem?_range hl, ← hk]; rfl
theorem ofs_set (G : kG9) {σ σ' : St} (q : Nat) {ci k kd : Nat} {v : Value} (hk : (fkL.getD ci []).getD k 0 = kd) (hv : fv G σ' q k kd = v) (ho : ∀ j n, j ≠ k → fv G σ' q j n = fv G σ q j n) : (ofs G σ q ci).set k v = ofs G σ' q ci := by
  rw [ofs, range_set, ofs]
  apply List.map_congr_left
  intro j _
  by_cases hj : j = k
  · subst hj; rw [if_pos rfl, hk, hv]
  · rw [if_neg hj, ho j _ hj]
theorem wcell_obj (G : kG9) (σ : St) {q ci : Nat} (h : layL.getD q (9, 0) = (0, ci)) : wcell G σ q = .inr (ci, ofs G σ q ci) := by rw [wcell, h]; rfl
theorem wcell_1 (G : kG9) (σ : St) {q n : Nat} (h : layL.getD q (9, 0) = (1, n)) : wcell G σ q = .inl (G.2.2.2.1.1, n, .inl (gi σ q)) := by rw [wcell, h]; rfl
theorem wcell_2 (G : kG9) (σ : St) {q n : Nat} (h : layL.getD q (9, 0) = (2, n)) : wcell G σ q = .inl (G.2.2.2.1.2.1, n, .inr (.inl (gl σ q))) := by rw [wcell, h]; rfl
theorem wcell_3 (G : kG9) (σ : St) {q n : Nat} (h : layL.getD q (9, 0) = (3, n)) : wcell G σ q = .inl (G.2.2.2.1.2.2.1, n, .inl (fun j => bI (gb σ q j))) := by rw [wcell, h]; rfl
theorem wcell_4 (G : kG9) (σ : St) {q n : Nat} (h : layL.getD q (9, 0) = (4, n)) : wcell G σ q = .inl (G.2.2.2.1.2.2.2.1, n, .inl (fun j => (gy σ q j).toInt32)) := by rw [wcell, h]; rfl
theorem wcell_5 (G : kG9) (σ : St) {q n : Nat} (h : layL.getD q (9, 0) = (5, n)) : wcell G σ q = .inl (G.2.2.2.1.2.2.2.2, n, .inr (.inr (.inr (.inr (fun j => some (ga G (1000 + j))))))) := by rw [wcell, h]; rfl
theorem lay_lt {q : Nat} {x : Nat × Nat} (h : layL.getD q (9, 0) = x) (hx : x ≠ (9, 0)) : q < layL.length := by
  by_cases hl : q < layL.length
  · exact hl
  · rw [List.getD_eq_getElem?_getD, List.getElem?_eq_none (by omega)] at h
    exact absurd h.symm hx
theorem si_other (G : kG9) (σ : St) {q q' : Nat} (k : Nat) (v : Int32) (h : q' ≠ q) : wcell G (si σ q k v) q' = wcell G σ q' := wcell_of G (fun j => by simp [si, gi, up2, h]) (fun _ => rfl) (fun _ => rfl) (fun _ => rfl) (fun _ => rfl)
theorem sl_other (G : kG9) (σ : St) {q q' : Nat} (k : Nat) (v : Int64) (h : q' ≠ q) : wcell G (sl σ q k v) q' = wcell G σ q' := wcell_of G (fun _ => rfl) (fun j => by simp [sl, gl, up2, h]) (fun _ => rfl) (fun _ => rfl) (fun _ => rfl)
theorem sb_other (G : kG9) (σ : St) {q q' : Nat} (k : Nat) (v : Bool) (h : q' ≠ q) : wcell G (sb σ q k v) q' = wcell G σ q' := wcell_of G (fun _ => rfl) (fun _ => rfl) (fun j => by simp [sb, gb, up2, h]) (fun _ => rfl) (fun _ => rfl)
theorem sy_other (G : kG9) (σ : St) {q q' : Nat} (k : Nat) (v : Int8) (h : q' ≠ q) : wcell G (sy σ q k v) q' = wcell G σ q' := wcell_of G (fun _ => rfl) (fun _ => rfl) (fun _ => rfl) (fun j => by simp [sy, gy, up2, h]) (fun _ => rfl)
theorem sr_other (G : kG9) (σ : St) {q q' : Nat} (k : Nat) (v : Nat) (h : q' ≠ q) : wcell G (sr σ q k v) q' = wcell G σ q' := wcell_of G (fun _ => rfl) (fun _ => rfl) (fun _ => rfl) (fun _ => rfl) (fun j => by simp [sr, gr, up2, h])
theorem ri_other (G : kG9) (σ : St) {q q' : Nat} (g : Nat → Int32) (h : q' ≠ q) : wcell G (ri σ q g) q' = wcell G σ q' := wcell_of G (fun j => by simp [ri, gi, upr, h]) (fun _ => rfl) (fun _ => rfl) (fun _ => rfl) (fun _ => rfl)
theorem rl_other (G : kG9) (σ : St) {q q' : Nat} (g : Nat → Int64) (h : q' ≠ q) : wcell G (rl σ q g) q' = wcell G σ q' := wcell_of G (fun _ => rfl) (fun j => by simp [rl, gl, upr, h]) (fun _ => rfl) (fun _ => rfl) (fun _ => rfl)
/-- a field is read -/
theorem wa_getv {idx q ci k kd : Nat} {fin : Bool} {v : Value} (hc0 : ClsOK ci) (hf : FLk M.2.2.2.2.1 idx ci k kd fin) (hq : layL.getD q (9, 0) = (0, ci)) (hv : fv G σ q k kd = cv G v) (kk : WA G M Z B lv (v :: st) σ) : WA G M Z ((pc, .getfield idx, 3) :: B) lv (.ref q :: st) σ := by
  refine ⟨List.cons_ne_nil _ _, fun hB p e s m args below meth c H locs A ls hc hx hw hl => ?_⟩
  have k0 := kk
  have k9 := k0.2 hB.tl p e s m args below meth c H locs A ls hc hx hw hl
  rw [hB.nx k0.1] at k9
  obtain ⟨C, T, N, ty0, c1, c2, c3, c4, c5⟩ := hc0
  obtain ⟨C', T', N', ref, n, d9, f1, f2, f3, f4, f5, -⟩ := hf
  cases c1.symm.trans f1
  have hql := lay_lt hq (by simp)
  have he : (ws9 G σ)[q]? = some (ga G q, .inr (ci, ofs G σ q ci)) := by rw [ws9_at G σ hql, wcell_obj G σ hq]
  have hvv : (ofs G σ q ci)[k]? = some (cv G v) := by rw [ofs_at G σ q (by rw [c5]; exact f2) f5, hv]
  have hin : ∀ w ∈ u_ws C T N, w ∈ cwd M :: allW := fun w h => List.mem_cons_of_mem _ (c2 w h)
  rcases f4 with f4 | ⟨host, f4⟩
  · exact k_get hc.1 hc.2.1 hc.2.2.2.2.2.1 hin hc.2.2.2.2.1 hc.2.2.2.2.2.2.2.2.2.2.1 hw.1 q he c1 f2 f3 (hc.2.2.2.2.2.1 _ (List.mem_cons_of_mem _ f4)) hvv hB.dec k9
  · exact k_getN hc.1 hc.2.1 hc.2.2.2.2.2.1 hin hc.2.2.2.2.1 hc.2.2.2.2.2.2.2.2.2.2.1 hw.1 q he c1 f2 f3 (va_Nw.use rfl (hc.2.2.2.2.2.2.2.1.1 _ f4)) hvv hB.dec k9
theorem wa_geti {idx q ci k : Nat} {fin : Bool} (hc0 : ClsOK ci) (hf : FLk M.2.2.2.2.1 idx ci k 0 fin) (hq : layL.getD q (9, 0) = (0, ci)) (kk : WA G M Z B lv (.int (gi σ q k) :: st) σ) : WA G M Z ((pc, .getfield idx, 3) :: B) lv (.ref q :: st) σ := wa_getv hc0 hf hq rfl kk
theorem wa_getz {idx q ci k : Nat} {fin : Bool} (hc0 : ClsOK ci) (hf : FLk M.2.2.2.2.1 idx ci k 1 fin) (hq : layL.getD q (9, 0) = (0, ci)) (kk : WA G M Z B lv (.int (bI (gb σ q k)) :: st) σ) : WA G M Z ((pc, .getfield idx, 3) :: B) lv (.ref q :: st) σ := wa_getv hc0 hf hq rfl kk
theorem wa_getl {idx q ci k : Nat} {fin : Bool} (hc0 : ClsOK ci) (hf : FLk M.2.2.2.2.1 idx ci k 2 fin) (hq : layL.getD q (9, 0) = (0, ci)) (kk : WA G M Z B lv (.long (gl σ q k) :: st) σ) : WA G M Z ((pc, .getfield idx, 3) :: B) lv (.ref q :: st) σ := wa_getv hc0 hf hq rfl kk
theorem wa_getr {idx q ci k x : Nat} {fin : Bool} (hc0 : ClsOK ci) (hf : FLk M.2.2.2.2.1 idx ci k 3 fin) (hq : layL.getD q (9, 0) = (0, ci)) (hx : rfc q k = x) (kk : WA G M Z B lv (.ref x :: st) σ) : WA G M Z ((pc, .getfield idx, 3) :: B) lv (.ref q :: st) σ := wa_getv hc0 hf hq (by rw [← hx]; rfl) kk
/-- a field is written -/
theorem wa_putv {idx q ci k kd : Nat} {v : Value} {σ' : St} {ty : FieldType} (hc0 : ClsOK ci) (hf : FLk M.2.2.2.2.1 idx ci k kd false) (hq : layL.getD q (9, 0) = (0, ci)) (hty : (kd = 0 ∧ ty = .int) ∨ (kd = 1 ∧ ty = .boolean) ∨ (kd = 2 ∧ ty = .long) ∨ (kd = 4 ∧ ty = .array .byte)) (hn : narrow ty (cv G v) = cv G v) (hfit : fits ty (cv G v) = true)
    (ho : ∀ q', q' ≠ q → wcell G σ' q' = wcell G σ q') (hv : fv G σ' q k kd = cv G v) (ho2 : ∀ j n, j ≠ k → fv G σ' q j n = fv G σ q j n) (kk : WA G M Z B lv st σ') : WA G M Z ((pc, .putfield idx, 3) :: B) lv (v :: .ref q :: st) σ := by
  refine ⟨List.cons_ne_nil _ _, fun hB p e s m args below meth c H locs A ls hc hx hw hl => ?_⟩
  obtain ⟨C, T, N, ty0, c1, c2, c3, c4, c5⟩ := hc0
  obtain ⟨C', T', N', ref, n, d9, f1, f2, f3, f4, f5, g0, g1, g2, g4⟩ := hf
  cases c1.symm.trans f1
  have hql := lay_lt hq (by simp)
  have he : (ws9 G σ)[q]? = some (ga G q, .inr (ci, ofs G σ q ci)) := by rw [ws9_at G σ hql, wcell_obj G σ hq]
  have hset : (ws9 G σ).set q (ga G q, .inr (ci, (ofs G σ q ci).set k (cv G v))) = ws9 G σ' := by
    rw [ofs_set G q f5 hv ho2, ← wcell_obj G σ' hq]; exact ws9_set G ho
  have hd9 : parseFieldDescriptor d9 = some ty := by
    rcases hty with ⟨a, b⟩ | ⟨a, b⟩ | ⟨a, b⟩ | ⟨a, b⟩
    · rw [b]; exact g0 a
    · rw [b]; exact g1 a
    · rw [b]; exact g2 a
    · rw [b]; exact g4 a
  have hll : k < (ofs G σ q ci).length := by rw [ofs, List.length_map, List.length_range, c5]; exact f2
  have hin : ∀ w ∈ u_ws C T N, w ∈ cwd M :: allW := fun w h => List.mem_cons_of_mem _ (c2 w h)
  have fin9 : ∀ (H1 : Heap) (locs1 : List Loc), va_P G.2.2.1 vwCl ((ws9 G σ).set q (ga G q, .inr (ci, (ofs G σ q ci).set k (cv G v)))) H1 → va_D A ((ws9 G σ).set q (ga G q, .inr (ci, (ofs G σ q ci).set k (cv G v)))) → va_S A s.heap H1 locs1 → W p G.1 e Z.1 s m args below meth c H1 locs1 Z.2.1 Z.2.2.1 (Z.2.2.2.2 below args s A) (F0 m (pc + 3) ls (st.map (cv G))) := fun H1 locs1 hP1 hD1 hS1 => by
    rw [hset] at hP1 hD1
    have k0 := kk
    have k9 := k0.2 hB.tl p e s m args below meth c H1 locs1 A ls hc hx ⟨hP1, hD1, hS1⟩ hl
    rw [hB.nx k0.1] at k9
    exact k9
  rcases f4 with f4 | ⟨host, f4⟩
  · exact k_put hc.1 hc.2.1 hc.2.2.2.2.2.1 hin ty0 c3 c4 hc.2.2.2.2.1 hc.2.2.2.2.2.2.2.2.2.2.1 hw.1 hw.2.1 hw.2.2 q he c1 f2 f3 (hc.2.2.2.2.2.1 _ (List.mem_cons_of_mem _ f4)) rfl hd9 hn hfit hll hB.dec fin9
  · exact k_putN hc.1 hc.2.1 hc.2.2.2.2.2.1 hin ty0 c3 c4 hc.2.2.2.2.1 hc.2.2.2.2.2.2.2.2.2.2.1 hw.1 hw.2.1 hw.2.2 q he c1 f2 f3 (va_Nw.use rfl (hc.2.2.2.2.2.2.2.1.1 _ f4)) rfl hd9 hn hfit hll hB.dec fin9
theorem fv_ne (G : kG9) {σ σ' : St} {q j : Nat} (h1 : gi σ' q j = gi σ q j) (h2 : gl σ' q j = gl σ q j) (h3 : gb σ' q j = gb σ q j) (h5 : gr σ' q j = gr σ q j) (n : Nat) : fv G σ' q j n = fv G σ q j n := by
  match n with
  | 0 => simp [fv, h1]
  | 1 => simp [fv, h3]
  | 2 => simp [fv, h2]
  | 3 => rfl
  | n + 4 => simp [fv, h5]
theorem wa_puti {idx q ci k : Nat} {x : Int32} (hc0 : ClsOK ci) (hf : FLk M.2.2.2.2.1 idx ci k 0 false) (hq : layL.getD q (9, 0) = (0, ci)) (kk : ∀ σ', σ' = si σ q k x → WA G M Z B lv st σ') : WA G M Z ((pc, .putfield idx, 3) :: B) lv (.int x :: .ref q :: st) σ :=
  wa_putv hc0 hf hq (Or.inl ⟨rfl, rfl⟩) rfl rfl (fun _ h => si_other G σ k x h) (by simp [fv, gi, si, up2, cv]) (fun j n h => fv_ne G (σ := σ) (σ' := si σ q k x) (by simp [gi, si, up2, h]) rfl rfl rfl n) (kk _ rfl)
theorem wa_putl {idx q ci k : Nat} {x : Int64} (hc0 : ClsOK ci) (hf : FLk M.2.2.2.2.1 idx ci k 2 false) (hq : layL.getD q (9, 0) = (0, ci)) (kk : ∀ σ', σ' = sl σ q k x → WA G M Z B lv st σ') : WA G M Z ((pc, .putfield idx, 3) :: B) lv (.long x :: .ref q :: st) σ :=
  wa_putv hc0 hf hq (Or.inr (Or.inr (Or.inl ⟨rfl, rfl⟩))) rfl rfl (fun _ h => sl_other G σ k x h) (by simp [fv, gl, sl, up2, cv]) (fun j n h => fv_ne G (σ := σ) (σ' := sl σ q k x) rfl (by simp [gl, sl, up2, h]) rfl rfl n) (kk _ rfl)
theorem bI_fit (b : Bool) : fits .boolean (.int (bI b)) = true := by cases b <;> decide
theorem wa_putz {idx q ci k : Nat} {x : Int32} (b : Bool) (hx : x = bI b) (hc0 : ClsOK ci) (hf : FLk M.2.2.2.2.1 idx ci k 1 false) (hq : layL.getD q (9, 0) = (0, ci)) (kk : ∀ σ', σ' = sb σ q k b → WA G M Z B lv st σ') : WA G M Z ((pc, .putfield idx, 3) :: B) lv (.int x :: .ref q :: st) σ := by
  subst hx
  exact wa_putv hc0 hf hq (Or.inr (Or.inl ⟨rfl, rfl⟩)) (bI_nar b) (bI_fit b) (fun _ h => sb_other G σ k b h) (by simp [fv, gb, sb, up2, cv]) (fun j n h => fv_ne G (σ := σ) (σ' := sb σ q k b) rfl rfl (by simp [gb, sb, up2, h]) rfl n) (kk _ rfl)
theorem wa_getr4 {idx q ci k : Nat} {fin : Bool} (hc0 : ClsOK ci) (hf : FLk M.2.2.2.2.1 idx ci k 4 fin) (hq : layL.getD q (9, 0) = (0, ci)) {x : Nat} (hx : gr σ q k = x) (kk : WA G M Z B lv (.ref x :: st) σ) : WA G M Z ((pc, .getfield idx, 3) :: B) lv (.ref q :: st) σ := wa_getv hc0 hf hq (by rw [← hx]; rfl) kk
theorem wa_putr4 {idx q ci k x : Nat} (hc0 : ClsOK ci) (hf : FLk M.2.2.2.2.1 idx ci k 4 false) (hq : layL.getD q (9, 0) = (0, ci)) (kk : ∀ σ', σ' = sr σ q k x → WA G M Z B lv st σ') : WA G M Z ((pc, .putfield idx, 3) :: B) lv (.ref x :: .ref q :: st) σ :=
  wa_putv hc0 hf hq (Or.inr (Or.inr (Or.inr ⟨rfl, rfl⟩))) rfl rfl (fun _ h => sr_other G σ k x h) (by simp [fv, gr, sr, up2, cv]) (fun j n h => fv_ne G (σ := σ) (σ' := sr σ q k x) rfl rfl rfl (by simp [gr, sr, up2, h]) n) (kk _ rfl)
/-- arrays are read -/
theorem wa_iald {q n : Nat} {i : Int32} (hq : layL.getD q (9, 0) = (1, n)) (hi : vp_in i n) (kk : WA G M Z B lv (.int (gi σ q i.toNatClampNeg) :: st) σ) : WA G M Z ((pc, .iaload, 1) :: B) lv (.int i :: .ref q :: st) σ := by
  refine ⟨List.cons_ne_nil _ _, fun hB p e s m args below meth c H locs A ls hc hx hw hl => ?_⟩
  have k0 := kk
  have k9 := k0.2 hB.tl p e s m args below meth c H locs A ls hc hx hw hl
  rw [hB.nx k0.1] at k9
  exact va_iald hc.1 hc.2.1 hc.2.2.2.2.2.2.2.2.2.2.1 hw.1 q 0 (by rw [ws9_at G σ (lay_lt hq (by simp)), wcell_1 G σ hq]) rfl hi hB.dec k9
theorem wa_lald {q n : Nat} {i : Int32} (hq : layL.getD q (9, 0) = (2, n)) (hi : vp_in i n) (kk : WA G M Z B lv (.long (gl σ q i.toNatClampNeg) :: st) σ) : WA G M Z ((pc, .laload, 1) :: B) lv (.int i :: .ref q :: st) σ := by
  refine ⟨List.cons_ne_nil _ _, fun hB p e s m args below meth c H locs A ls hc hx hw hl => ?_⟩
  have k0 := kk
  have k9 := k0.2 hB.tl p e s m args below meth c H locs A ls hc hx hw hl
  rw [hB.nx k0.1] at k9
  exact va_lald hc.1 hc.2.1 hc.2.2.2.2.2.2.2.2.2.2.1 hw.1 q 1 (by rw [ws9_at G σ (lay_lt hq (by simp)), wcell_2 G σ hq]) rfl hi hB.dec k9
theorem wa_zald {q n : Nat} {i : Int32} (hq : layL.getD q (9, 0) = (3, n)) (hi : vp_in i n) (kk : WA G M Z B lv (.int (bI (gb σ q i.toNatClampNeg)) :: st) σ) : WA G M Z ((pc, .baload, 1) :: B) lv (.int i :: .ref q :: st) σ := by
  refine ⟨List.cons_ne_nil _ _, fun hB p e s m args below meth c H locs A ls hc hx hw hl => ?_⟩
  have k0 := kk
  have k9 := k0.2 hB.tl p e s m args below meth c H locs A ls hc hx hw hl
  rw [hB.nx k0.1] at k9
  exact va_zald (f := fun j => bI (gb σ q j)) hc.1 hc.2.1 hc.2.2.2.2.2.2.2.2.2.2.1 hw.1 q 3 (by rw [ws9_at G σ (lay_lt hq (by simp)), wcell_3 G σ hq]) rfl hi hB.dec k9
theorem wa_bald {q n : Nat} {i : Int32} (hq : layL.getD q (9, 0) = (4, n)) (hi : vp_in i n) (kk : WA G M Z B lv (.int (gy σ q i.toNatClampNeg).toInt32 :: st) σ) : WA G M Z ((pc, .baload, 1) :: B) lv (.int i :: .ref q :: st) σ := by
  refine ⟨List.cons_ne_nil _ _, fun hB p e s m args below meth c H locs A ls hc hx hw hl => ?_⟩
  have k0 := kk
  have k9 := k0.2 hB.tl p e s m args below meth c H locs A ls hc hx hw hl
  rw [hB.nx k0.1] at k9
  exact va_bald (f := fun j => (gy σ q j).toInt32) hc.1 hc.2.1 hc.2.2.2.2.2.2.2.2.2.2.1 hw.1 q 2 (by rw [ws9_at G σ (lay_lt hq (by simp)), wcell_4 G σ hq]) rfl hi hB.dec k9
theorem wa_aald {q n : Nat} {i : Int32} (hq : layL.getD q (9, 0) = (5, n)) (hi : vp_in i n) (kk : WA G M Z B lv (.ref (1000 + i.toNatClampNeg) :: st) σ) : WA G M Z ((pc, .aaload, 1) :: B) lv (.int i :: .ref q :: st) σ := by
  refine ⟨List.cons_ne_nil _ _, fun hB p e s m args below meth c H locs A ls hc hx hw hl => ?_⟩
  have k0 := kk
  have k9 := k0.2 hB.tl p e s m args below meth c H locs A ls hc hx hw hl
  rw [hB.nx k0.1] at k9
  exact va_aldq (f := fun j => some (ga G (1000 + j))) hc.1 hc.2.1 hc.2.2.2.2.2.2.2.2.2.2.1 hw.1 q 4 (by rw [ws9_at G σ (lay_lt hq (by simp)), wcell_5 G σ hq]) rfl hi hB.dec k9
theorem wa_alen {q k n : Nat} (hq : layL.getD q (9, 0) = (k + 1, n)) (hk : k < 4) (kk : WA G M Z B lv (.int (Int32.ofNat n) :: st) σ) : WA G M Z ((pc, .arraylength, 1) :: B) lv (.ref q :: st) σ := by
  refine ⟨List.cons_ne_nil _ _, fun hB p e s m args below meth c H locs A ls hc hx hw hl => ?_⟩
  have k0 := kk
  have k9 := k0.2 hB.tl p e s m args below meth c H locs A ls hc hx hw hl
  rw [hB.nx k0.1] at k9
  have hql : q < layL.length := lay_lt hq (by simp; omega)
  match k, hk with
  | 0, _ => exact va_alen (x := (n, .inl (gi σ q))) hc.1 hc.2.1 hc.2.2.2.2.2.2.2.2.2.2.1 hw.1 q 0 (by rw [ws9_at G σ hql, wcell_1 G σ hq]) rfl rfl hB.dec k9
  | 1, _ => exact va_alen (x := (n, .inr (.inl (gl σ q)))) hc.1 hc.2.1 hc.2.2.2.2.2.2.2.2.2.2.1 hw.1 q 1 (by rw [ws9_at G σ hql, wcell_2 G σ hq]) rfl rfl hB.dec k9
  | 2, _ => exact va_alen (x := (n, .inl (fun j => bI (gb σ q j)))) hc.1 hc.2.1 hc.2.2.2.2.2.2.2.2.2.2.1 hw.1 q 3 (by rw [ws9_at G σ hql, wcell_3 G σ hq]) rfl rfl hB.dec k9
  | 3, _ => exact va_alen (x := (n, .inl (fun j => (gy σ q j).toInt32))) hc.1 hc.2.1 hc.2.2.2.2.2.2.2.2.2.2.1 hw.1 q 2 (by rw [ws9_at G σ hql, wcell_4 G σ hq]) rfl rfl hB.dec k9
/-- arrays are written -/
theorem up_i (σ : St) (q k : Nat) (x : Int32) : upd (gi σ q) k x = gi (si σ q k x) q := by funext j; by_cases h : j = k <;> simp [upd, gi, si, up2, h]
theorem up_l (σ : St) (q k : Nat) (x : Int64) : vp_updL (gl σ q) k x = gl (sl σ q k x) q := by funext j; by_cases h : j = k <;> simp [vp_updL, gl, sl, up2, h]
theorem up_b (σ : St) (q k : Nat) (b : Bool) : upd (fun j => bI (gb σ q j)) k (vp_nar .boolean (bI b)) = fun j => bI (gb (sb σ q k b) q j) := by
  have e : vp_nar .boolean (bI b) = bI b := by rw [vp_nar, bI_nar]
  funext j; by_cases h : j = k <;> simp [upd, gb, sb, up2, h, e]
theorem up_y (σ : St) (q k : Nat) (x : Int32) : upd (fun j => (gy σ q j).toInt32) k (vp_nar .byte x) = fun j => (gy (sy σ q k x.toInt8) q j).toInt32 := by
  funext j; by_cases h : j = k <;> simp [upd, gy, sy, up2, h, vp_nar_byte]
theorem wa_iast {q n : Nat} {i x : Int32} (hq : layL.getD q (9, 0) = (1, n)) (hi : vp_in i n) (kk : ∀ σ', σ' = si σ q i.toNatClampNeg x → WA G M Z B lv st σ') : WA G M Z ((pc, .iastore, 1) :: B) lv (.int x :: .int i :: .ref q :: st) σ := by
  refine ⟨List.cons_ne_nil _ _, fun hB p e s m args below meth c H locs A ls hc hx hw hl => ?_⟩
  refine va_iast hc.1 hc.2.1 hc.2.2.2.2.2.2.2.2.2.2.1 hw.1 hw.2.1 hw.2.2 q 0 (by rw [ws9_at G σ (lay_lt hq (by simp)), wcell_1 G σ hq]) rfl hi hB.dec (fun H1 locs1 hP1 hD1 hS1 => ?_)
  rw [up_i, ← wcell_1 G _ hq, ws9_set G (fun q' h => si_other G σ _ x h)] at hP1 hD1
  have k0 := kk _ rfl
  have k9 := k0.2 hB.tl p e s m args below meth c H1 locs1 A ls hc hx ⟨hP1, hD1, hS1⟩ hl
  rw [hB.nx k0.1] at k9
  exact k9
theorem wa_last {q n : Nat} {i : Int32} {x : Int64} (hq : layL.getD q (9, 0) = (2, n)) (hi : vp_in i n) (kk : ∀ σ', σ' = sl σ q i.toNatClampNeg x → WA G M Z B lv st σ') : WA G M Z ((pc, .lastore, 1) :: B) lv (.long x :: .int i :: .ref q :: st) σ := by
  refine ⟨List.cons_ne_nil _ _, fun hB p e s m args below meth c H locs A ls hc hx hw hl => ?_⟩
  refine va_last hc.1 hc.2.1 hc.2.2.2.2.2.2.2.2.2.2.1 hw.1 hw.2.1 hw.2.2 q 1 (by rw [ws9_at G σ (lay_lt hq (by simp)), wcell_2 G σ hq]) rfl hi hB.dec (fun H1 locs1 hP1 hD1 hS1 => ?_)
  rw [up_l, ← wcell_2 G _ hq, ws9_set G (fun q' h => sl_other G σ _ x h)] at hP1 hD1
  have k0 := kk _ rfl
  have k9 := k0.2 hB.tl p e s m args below meth c H1 locs1 A ls hc hx ⟨hP1, hD1, hS1⟩ hl
  rw [hB.nx k0.1] at k9
  exact k9
theorem wa_zast {q n : Nat} {i x : Int32} (b : Bool) (hx : x = bI b) (hq : layL.getD q (9, 0) = (3, n)) (hi : vp_in i n) (kk : ∀ σ', σ' = sb σ q i.toNatClampNeg b → WA G M Z B lv st σ') : WA G M Z ((pc, .bastore, 1) :: B) lv (.int x :: .int i :: .ref q :: st) σ := by
  subst hx
  refine ⟨List.cons_ne_nil _ _, fun hB p e s m args below meth c H locs A ls hc hx hw hl => ?_⟩
  refine va_zast hc.1 hc.2.1 hc.2.2.2.2.2.2.2.2.2.2.1 hw.1 hw.2.1 hw.2.2 q 3 (by rw [ws9_at G σ (lay_lt hq (by simp)), wcell_3 G σ hq]) rfl hi hB.dec (fun H1 locs1 hP1 hD1 hS1 => ?_)
  rw [up_b, ← wcell_3 G _ hq, ws9_set G (fun q' h => sb_other G σ _ b h)] at hP1 hD1
  have k0 := kk _ rfl
  have k9 := k0.2 hB.tl p e s m args below meth c H1 locs1 A ls hc hx ⟨hP1, hD1, hS1⟩ hl
  rw [hB.nx k0.1] at k9
  exact k9
theorem wa_bast {q n : Nat} {i x : Int32} (hq : layL.getD q (9, 0) = (4, n)) (hi : vp_in i n) (kk : ∀ σ', σ' = sy σ q i.toNatClampNeg x.toInt8 → WA G M Z B lv st σ') : WA G M Z ((pc, .bastore, 1) :: B) lv (.int x :: .int i :: .ref q :: st) σ := by
  refine ⟨List.cons_ne_nil _ _, fun hB p e s m args below meth c H locs A ls hc hx hw hl => ?_⟩
  refine va_bast hc.1 hc.2.1 hc.2.2.2.2.2.2.2.2.2.2.1 hw.1 hw.2.1 hw.2.2 q 2 (by rw [ws9_at G σ (lay_lt hq (by simp)), wcell_4 G σ hq]) rfl hi hB.dec (fun H1 locs1 hP1 hD1 hS1 => ?_)
  rw [up_y, ← wcell_4 G _ hq, ws9_set G (fun q' h => sy_other G σ _ _ h)] at hP1 hD1
  have k0 := kk _ rfl
  have k9 := k0.2 hB.tl p e s m args below meth c H1 locs1 A ls hc hx ⟨hP1, hD1, hS1⟩ hl
  rw [hB.nx k0.1] at k9
  exact k9
/-- a method that may be called: so many arguments, its words stand in the tables -/
def MokN (M : MT) (n : Nat) : Prop := (M.1.cls ≠ "java/lang/invoke/MethodHandle" ∧ M.1.cls ≠ "java/lang/invoke/VarHandle" ∧ (parseMethodDescriptor M.1.desc).map (fun d => d.parameters.length) = some n) ∧ cwd M ∈ allW ∧ Cond.initialized M.1.cls ∈ allW ∧ M.2.2.1 ≤ 45
def MokV (M : MT) (ci n : Nat) : Prop := MokN M n ∧ (∃ (T : u_T) (N : Nat), vwCl[ci]? = some (M.1.cls, T, N)) ∧ Cond.instanceMethod M.1 ∈ allW ∧ Cond.selects M.1.cls M.1 M.1 ∈ allW
def MokT (M : MT) (n : Nat) : Prop := MokN M n ∧ M.1.cls = "java/lang/String" ∧ Cond.instanceMethod M.1 ∈ allW ∧ Cond.selects M.1.cls M.1 M.1 ∈ allW
def MokS (M : MT) (n : Nat) : Prop := MokN M n ∧ Cond.static M.1 ∈ allW
def MLk (own : String) (idx : Nat) (y : MethodName) : Prop := Cond.methodLink own idx y ∈ allW ∨ ∃ host, (own, idx, y, host) ∈ kNM
theorem wfree {G : kG9} {A : Nat → Prop} {s : State} {H : Heap} {locs : List Loc} {σ : St} (hA : ∀ q, s.heap.size ≤ q → A q) (hw : WH G A s H locs σ) : ∀ q, va_A (ws9 G σ) H.size q → A q := fun q h => by
  rcases h with ⟨k, e, h⟩ | h
  · exact hw.2.1.2 k (q, e) h
  · exact hA q (Nat.le_trans hw.2.2.1 h)
theorem goodC {Ts : List Cond} {M' : MT} (hT : ∀ w ∈ allW, w ∈ Ts) (h : cwd M' ∈ allW) : GoodIn Ts (cwd M' :: allW) := fun w hw => by
  rcases List.mem_cons.mp hw with rfl | hw
  · exact ⟨hT _ h, allW_good _ h⟩
  · exact ⟨hT _ hw, allW_good _ hw⟩
theorem ga_t (G : kG9) {j : Nat} (h : j < 1000) : ga G (1000 + j) = G.2.1.2.2.2.2.1 j := by unfold ga; rw [if_neg (by omega), if_pos (by omega), Nat.add_sub_cancel_left]
theorem ga_b (G : kG9) {j : Nat} (h : j < 1000) : ga G (2000 + j) = G.2.1.2.2.2.2.2 j := by unfold ga; rw [if_neg (by omega), if_neg (by omega), if_pos (by omega), Nat.add_sub_cancel_left]
theorem kq_all : ∀ q ∈ kSq, q.1 < 1000 := by decide +kernel
theorem kq_lt {q : Nat × String × Nat × String × Nat × List Int32} (h : q ∈ kSq) : q.1 < 1000 := kq_all q h
section PC
variable {p : Program} {e : Env} {R : Room} {s : State} {m : MethodId} {args : Array Value} {below : List Frame} {meth : Method} {c : Code} {H : Heap} {locs : List Loc} {cells slots : Nat} {QQ : State → Prop}
variable {G : kG9} {A : Nat → Prop} {σ : St} {cc : ByteArray} {nL pc : Nat} {Ts : List Cond} {own : String} {ls : Array Slot}
theorem ct_pre {M' : MT} {av : List Value} (hN : kN s) (hX : kX G.2.1 s) (hAE : ∀ q, A q → G.2.1.1 ≤ q) (hK : va_K G.2.2.1 vwCl (kT5 G) s) (hw : WH G A s H locs σ) : FrameBlind (kPc G.2.1 G.2.2.1 (kT5 G) av H.size (ws9 G σ)) ∧ ∀ U : State, U.heap = H → s.WarmedH U.vm → kPc G.2.1 G.2.2.1 (kT5 G) av H.size (ws9 G σ) av.toArray U :=
  ⟨kPc_blind, fun U hU hW => ⟨rfl, by rw [hU], by rw [hU]; exact hw.1, va_K.moved hW.alike hK, hw.2.1.weaken (fun _ _ _ h => hAE _ h), kN.warm hW hN, hX.call hAE hw.2.2 hU hW⟩⟩
theorem ct_Vi {M9 : MT} {d9 idx q ci n : Nat} {As : List Value} {rest : List Value} {Q9 : Option Value → St → Prop} (S : CallFix p m c cc nL s args Ts own) (hT : ∀ w ∈ allW, w ∈ Ts) (hN : kN s) (hX : kX G.2.1 s) (hAE : ∀ q, A q → G.2.1.1 ≤ q) (hK : va_K G.2.2.1 vwCl (kT5 G) s) (hA : ∀ q, s.heap.size ≤ q → A q) (hw : WH G A s H locs σ)
    (hM : Ct G M9 d9 (.ref q :: As) σ Q9) (hk : M9.2.2.2.2.2 = 1) (hR : d9 + 5 ≤ R.frames ∧ 64 * (d9 + 1) + 400 ≤ R.locals) (hRc : cells ≤ R.cells ∧ slots ≤ R.slots) (hm : MokV M9 ci n) (hq : layL.getD q (9, 0) = (0, ci)) (hl : MLk own idx M9.1) (hn : As.length = n) (hsz : ls.size = nL) (hW : (rest.map fun v => v.category).sum ≤ 8) (hdg : decode cc pc = .ok (.invokevirtual idx, 3))
    (kk : ∀ (x : Int32) (σ9 : St) (H1 : Heap) (locs1 : List Loc), Q9 (some (.int x)) σ9 → WH G A s H1 locs1 σ9 → W p G.1 e R s m args below meth c H1 locs1 cells slots QQ (F0 m (pc + 3) ls (.int x :: rest))) : W p G.1 e R s m args below meth c H locs cells slots QQ (F0 m pc ls ((As.map (cv G)).reverse ++ .ref (ga G q) :: rest)) := by
  have hM1 : Met G.1 M9.1 (cwd M9 :: allW) (rmd d9) (kPc G.2.1 G.2.2.1 (kT5 G) (.ref (ga G q) :: As.map (cv G)) H.size (ws9 G σ)) (va_Qi (fun r σ => Q9 (some (.int r)) σ) (QB G (va_A (ws9 G σ) H.size)) (va_A (ws9 G σ) H.size)) 0 0 (va_A (ws9 G σ) H.size) := by
    have h9 := hM H.size
    rw [hk] at h9
    exact h9
  obtain ⟨⟨⟨m1, m2, m3⟩, m4, m5, m6⟩, ⟨T, N, m7⟩, m8, m9⟩ := hm
  obtain ⟨h1, h2⟩ := ct_pre (M' := M9) (av := (.ref (ga G q) :: As.map (cv G))) hN hX hAE hK hw
  have hlen : (As.map (cv G)).length = n := by rw [List.length_map]; exact hn
  have hG9 := goodC (Ts := Ts) hT m4
  have hts := S.2.2.2.2
  have hR9 : (rmd d9).frames + 1 ≤ R.frames ∧ 8 + (M9.2.2.1 + 11) + (rmd d9).locals ≤ R.locals := ⟨hR.1, by show 8 + (M9.2.2.1 + 11) + (64 * d9 + 400) ≤ R.locals; omega⟩
  have hf9 : cells + 0 ≤ R.cells ∧ slots + 0 ≤ R.slots := hRc
  have he : (ws9 G σ)[q]? = some (ga G q, .inr (ci, ofs G σ q ci)) := by rw [ws9_at G σ (lay_lt hq (by simp)), wcell_obj G σ hq]
  rcases hl with hl | ⟨host, hl⟩
  · refine va_calli (va_runV (C := M9.1.cls) (As := As.map (cv G)) (rest := rest) S hM1 ⟨callB_of n hts hG9 rfl rfl rfl (hts _ (hT _ m5)) (hts _ (hT _ hl)) ⟨m1, m2, m3⟩ hR9, hts _ (hT _ m8), hts _ (hT _ m9)⟩ ⟨h1, va_recv hK hw.1 m7 he, h2⟩ rfl hlen hsz rfl (lv_room hW) hdg hf9) hw.2.2 (fun q _ h => wfree hA hw q h) (wfree hA hw) (fun x u t H1 locs1 ht hvm hq9 hB9 hz1 hk1 hS1 => ?_)
    exact kk x u H1 locs1 hq9 ⟨by rw [← ht]; exact hB9.1, hB9.2.2.weaken (fun _ _ _ h => wfree hA hw _ h), hS1⟩
  · refine va_calli (va_runVN (C := M9.1.cls) (As := As.map (cv G)) (rest := rest) S hM1 ⟨va_cnB n hts hG9 rfl rfl rfl (hN.2 _ hl) (hts _ (hT _ m5)) ⟨m1, m2, m3⟩ hR9, hts _ (hT _ m8), hts _ (hT _ m9)⟩ ⟨h1, va_recv hK hw.1 m7 he, h2⟩ rfl hlen hsz rfl (lv_room hW) hdg hf9) hw.2.2 (fun q _ h => wfree hA hw q h) (wfree hA hw) (fun x u t H1 locs1 ht hvm hq9 hB9 hz1 hk1 hS1 => ?_)
    exact kk x u H1 locs1 hq9 ⟨by rw [← ht]; exact hB9.1, hB9.2.2.weaken (fun _ _ _ h => wfree hA hw _ h), hS1⟩
theorem ct_Vl {M9 : MT} {d9 idx q ci n : Nat} {As : List Value} {rest : List Value} {Q9 : Option Value → St → Prop} (S : CallFix p m c cc nL s args Ts own) (hT : ∀ w ∈ allW, w ∈ Ts) (hN : kN s) (hX : kX G.2.1 s) (hAE : ∀ q, A q → G.2.1.1 ≤ q) (hK : va_K G.2.2.1 vwCl (kT5 G) s) (hA : ∀ q, s.heap.size ≤ q → A q) (hw : WH G A s H locs σ)
    (hM : Ct G M9 d9 (.ref q :: As) σ Q9) (hk : M9.2.2.2.2.2 = 2) (hR : d9 + 5 ≤ R.frames ∧ 64 * (d9 + 1) + 400 ≤ R.locals) (hRc : cells ≤ R.cells ∧ slots ≤ R.slots) (hm : MokV M9 ci n) (hq : layL.getD q (9, 0) = (0, ci)) (hl : MLk own idx M9.1) (hn : As.length = n) (hsz : ls.size = nL) (hW : (rest.map fun v => v.category).sum ≤ 8) (hdg : decode cc pc = .ok (.invokevirtual idx, 3))
    (kk : ∀ (x : Int64) (σ9 : St) (H1 : Heap) (locs1 : List Loc), Q9 (some (.long x)) σ9 → WH G A s H1 locs1 σ9 → W p G.1 e R s m args below meth c H1 locs1 cells slots QQ (F0 m (pc + 3) ls (.long x :: rest))) : W p G.1 e R s m args below meth c H locs cells slots QQ (F0 m pc ls ((As.map (cv G)).reverse ++ .ref (ga G q) :: rest)) := by
  have hM1 : Met G.1 M9.1 (cwd M9 :: allW) (rmd d9) (kPc G.2.1 G.2.2.1 (kT5 G) (.ref (ga G q) :: As.map (cv G)) H.size (ws9 G σ)) (va_Ql (fun r σ => Q9 (some (.long r)) σ) (QB G (va_A (ws9 G σ) H.size)) (va_A (ws9 G σ) H.size)) 0 0 (va_A (ws9 G σ) H.size) := by
    have h9 := hM H.size
    rw [hk] at h9
    exact h9
  obtain ⟨⟨⟨m1, m2, m3⟩, m4, m5, m6⟩, ⟨T, N, m7⟩, m8, m9⟩ := hm
  obtain ⟨h1, h2⟩ := ct_pre (M' := M9) (av := (.ref (ga G q) :: As.map (cv G))) hN hX hAE hK hw
  have hlen : (As.map (cv G)).length = n := by rw [List.length_map]; exact hn
  have hG9 := goodC (Ts := Ts) hT m4
  have hts := S.2.2.2.2
  have hR9 : (rmd d9).frames + 1 ≤ R.frames ∧ 8 + (M9.2.2.1 + 11) + (rmd d9).locals ≤ R.locals := ⟨hR.1, by show 8 + (M9.2.2.1 + 11) + (64 * d9 + 400) ≤ R.locals; omega⟩
  have hf9 : cells + 0 ≤ R.cells ∧ slots + 0 ≤ R.slots := hRc
  have he : (ws9 G σ)[q]? = some (ga G q, .inr (ci, ofs G σ q ci)) := by rw [ws9_at G σ (lay_lt hq (by simp)), wcell_obj G σ hq]
  rcases hl with hl | ⟨host, hl⟩
  · refine va_calll (va_runV (C := M9.1.cls) (As := As.map (cv G)) (rest := rest) S hM1 ⟨callB_of n hts hG9 rfl rfl rfl (hts _ (hT _ m5)) (hts _ (hT _ hl)) ⟨m1, m2, m3⟩ hR9, hts _ (hT _ m8), hts _ (hT _ m9)⟩ ⟨h1, va_recv hK hw.1 m7 he, h2⟩ rfl hlen hsz rfl (lv_room hW) hdg hf9) hw.2.2 (fun q _ h => wfree hA hw q h) (wfree hA hw) (fun x u t H1 locs1 ht hvm hq9 hB9 hz1 hk1 hS1 => ?_)
    exact kk x u H1 locs1 hq9 ⟨by rw [← ht]; exact hB9.1, hB9.2.2.weaken (fun _ _ _ h => wfree hA hw _ h), hS1⟩
  · refine va_calll (va_runVN (C := M9.1.cls) (As := As.map (cv G)) (rest := rest) S hM1 ⟨va_cnB n hts hG9 rfl rfl rfl (hN.2 _ hl) (hts _ (hT _ m5)) ⟨m1, m2, m3⟩ hR9, hts _ (hT _ m8), hts _ (hT _ m9)⟩ ⟨h1, va_recv hK hw.1 m7 he, h2⟩ rfl hlen hsz rfl (lv_room hW) hdg hf9) hw.2.2 (fun q _ h => wfree hA hw q h) (wfree hA hw) (fun x u t H1 locs1 ht hvm hq9 hB9 hz1 hk1 hS1 => ?_)
    exact kk x u H1 locs1 hq9 ⟨by rw [← ht]; exact hB9.1, hB9.2.2.weaken (fun _ _ _ h => wfree hA hw _ h), hS1⟩
theorem ct_Vv {M9 : MT} {d9 idx q ci n : Nat} {As : List Value} {rest : List Value} {Q9 : Option Value → St → Prop} (S : CallFix p m c cc nL s args Ts own) (hT : ∀ w ∈ allW, w ∈ Ts) (hN : kN s) (hX : kX G.2.1 s) (hAE : ∀ q, A q → G.2.1.1 ≤ q) (hK : va_K G.2.2.1 vwCl (kT5 G) s) (hA : ∀ q, s.heap.size ≤ q → A q) (hw : WH G A s H locs σ)
    (hM : Ct G M9 d9 (.ref q :: As) σ Q9) (hk : M9.2.2.2.2.2 = 0) (hR : d9 + 5 ≤ R.frames ∧ 64 * (d9 + 1) + 400 ≤ R.locals) (hRc : cells ≤ R.cells ∧ slots ≤ R.slots) (hm : MokV M9 ci n) (hq : layL.getD q (9, 0) = (0, ci)) (hl : MLk own idx M9.1) (hn : As.length = n) (hsz : ls.size = nL) (hW : (rest.map fun v => v.category).sum ≤ 8) (hdg : decode cc pc = .ok (.invokevirtual idx, 3))
    (kk : ∀ (σ9 : St) (H1 : Heap) (locs1 : List Loc), Q9 none σ9 → WH G A s H1 locs1 σ9 → W p G.1 e R s m args below meth c H1 locs1 cells slots QQ (F0 m (pc + 3) ls (rest))) : W p G.1 e R s m args below meth c H locs cells slots QQ (F0 m pc ls ((As.map (cv G)).reverse ++ .ref (ga G q) :: rest)) := by
  have hM1 : Met G.1 M9.1 (cwd M9 :: allW) (rmd d9) (kPc G.2.1 G.2.2.1 (kT5 G) (.ref (ga G q) :: As.map (cv G)) H.size (ws9 G σ)) (va_Qv (fun σ => Q9 none σ) (QB G (va_A (ws9 G σ) H.size)) (va_A (ws9 G σ) H.size)) 0 0 (va_A (ws9 G σ) H.size) := by
    have h9 := hM H.size
    rw [hk] at h9
    exact h9
  obtain ⟨⟨⟨m1, m2, m3⟩, m4, m5, m6⟩, ⟨T, N, m7⟩, m8, m9⟩ := hm
  obtain ⟨h1, h2⟩ := ct_pre (M' := M9) (av := (.ref (ga G q) :: As.map (cv G))) hN hX hAE hK hw
  have hlen : (As.map (cv G)).length = n := by rw [List.length_map]; exact hn
  have hG9 := goodC (Ts := Ts) hT m4
  have hts := S.2.2.2.2
  have hR9 : (rmd d9).frames + 1 ≤ R.frames ∧ 8 + (M9.2.2.1 + 11) + (rmd d9).locals ≤ R.locals := ⟨hR.1, by show 8 + (M9.2.2.1 + 11) + (64 * d9 + 400) ≤ R.locals; omega⟩
  have hf9 : cells + 0 ≤ R.cells ∧ slots + 0 ≤ R.slots := hRc
  have he : (ws9 G σ)[q]? = some (ga G q, .inr (ci, ofs G σ q ci)) := by rw [ws9_at G σ (lay_lt hq (by simp)), wcell_obj G σ hq]
  rcases hl with hl | ⟨host, hl⟩
  · refine va_callv (va_runV (C := M9.1.cls) (As := As.map (cv G)) (rest := rest) S hM1 ⟨callB_of n hts hG9 rfl rfl rfl (hts _ (hT _ m5)) (hts _ (hT _ hl)) ⟨m1, m2, m3⟩ hR9, hts _ (hT _ m8), hts _ (hT _ m9)⟩ ⟨h1, va_recv hK hw.1 m7 he, h2⟩ rfl hlen hsz rfl (lv_room hW) hdg hf9) hw.2.2 (fun q _ h => wfree hA hw q h) (wfree hA hw) (fun u t H1 locs1 ht hvm hq9 hB9 hz1 hk1 hS1 => ?_)
    exact kk u H1 locs1 hq9 ⟨by rw [← ht]; exact hB9.1, hB9.2.2.weaken (fun _ _ _ h => wfree hA hw _ h), hS1⟩
  · refine va_callv (va_runVN (C := M9.1.cls) (As := As.map (cv G)) (rest := rest) S hM1 ⟨va_cnB n hts hG9 rfl rfl rfl (hN.2 _ hl) (hts _ (hT _ m5)) ⟨m1, m2, m3⟩ hR9, hts _ (hT _ m8), hts _ (hT _ m9)⟩ ⟨h1, va_recv hK hw.1 m7 he, h2⟩ rfl hlen hsz rfl (lv_room hW) hdg hf9) hw.2.2 (fun q _ h => wfree hA hw q h) (wfree hA hw) (fun u t H1 locs1 ht hvm hq9 hB9 hz1 hk1 hS1 => ?_)
    exact kk u H1 locs1 hq9 ⟨by rw [← ht]; exact hB9.1, hB9.2.2.weaken (fun _ _ _ h => wfree hA hw _ h), hS1⟩
theorem ct_Si {M9 : MT} {d9 idx n : Nat} {As : List Value} {rest : List Value} {Q9 : Option Value → St → Prop} (S : CallFix p m c cc nL s args Ts own) (hT : ∀ w ∈ allW, w ∈ Ts) (hN : kN s) (hX : kX G.2.1 s) (hAE : ∀ q, A q → G.2.1.1 ≤ q) (hK : va_K G.2.2.1 vwCl (kT5 G) s) (hA : ∀ q, s.heap.size ≤ q → A q) (hw : WH G A s H locs σ)
    (hM : Ct G M9 d9 (As) σ Q9) (hk : M9.2.2.2.2.2 = 1) (hR : d9 + 5 ≤ R.frames ∧ 64 * (d9 + 1) + 400 ≤ R.locals) (hRc : cells ≤ R.cells ∧ slots ≤ R.slots) (hm : MokS M9 n) (hl : MLk own idx M9.1) (hn : As.length = n) (hsz : ls.size = nL) (hW : (rest.map fun v => v.category).sum ≤ 8) (hdg : decode cc pc = .ok (.invokestatic idx, 3))
    (kk : ∀ (x : Int32) (σ9 : St) (H1 : Heap) (locs1 : List Loc), Q9 (some (.int x)) σ9 → WH G A s H1 locs1 σ9 → W p G.1 e R s m args below meth c H1 locs1 cells slots QQ (F0 m (pc + 3) ls (.int x :: rest))) : W p G.1 e R s m args below meth c H locs cells slots QQ (F0 m pc ls ((As.map (cv G)).reverse ++ rest)) := by
  have hM1 : Met G.1 M9.1 (cwd M9 :: allW) (rmd d9) (kPc G.2.1 G.2.2.1 (kT5 G) (As.map (cv G)) H.size (ws9 G σ)) (va_Qi (fun r σ => Q9 (some (.int r)) σ) (QB G (va_A (ws9 G σ) H.size)) (va_A (ws9 G σ) H.size)) 0 0 (va_A (ws9 G σ) H.size) := by
    have h9 := hM H.size
    rw [hk] at h9
    exact h9
  obtain ⟨⟨⟨m1, m2, m3⟩, m4, m5, m6⟩, m8⟩ := hm
  obtain ⟨h1, h2⟩ := ct_pre (M' := M9) (av := (As.map (cv G))) hN hX hAE hK hw
  have hlen : (As.map (cv G)).length = n := by rw [List.length_map]; exact hn
  have hG9 := goodC (Ts := Ts) hT m4
  have hts := S.2.2.2.2
  have hR9 : (rmd d9).frames + 1 ≤ R.frames ∧ 8 + (M9.2.2.1 + 11) + (rmd d9).locals ≤ R.locals := ⟨hR.1, by show 8 + (M9.2.2.1 + 11) + (64 * d9 + 400) ≤ R.locals; omega⟩
  have hf9 : cells + 0 ≤ R.cells ∧ slots + 0 ≤ R.slots := hRc
  rcases hl with hl | ⟨host, hl⟩
  · refine va_calli (va_runS (As := As.map (cv G)) (rest := rest) S hM1 ⟨callB_of n hts hG9 rfl rfl rfl (hts _ (hT _ m5)) (hts _ (hT _ hl)) ⟨m1, m2, m3⟩ hR9, hts _ (hT _ m8)⟩ ⟨h1, h2⟩ rfl hlen hsz rfl (lv_room hW) hdg hf9) hw.2.2 (fun q _ h => wfree hA hw q h) (wfree hA hw) (fun x u t H1 locs1 ht hvm hq9 hB9 hz1 hk1 hS1 => ?_)
    exact kk x u H1 locs1 hq9 ⟨by rw [← ht]; exact hB9.1, hB9.2.2.weaken (fun _ _ _ h => wfree hA hw _ h), hS1⟩
  · refine va_calli (va_runSN (As := As.map (cv G)) (rest := rest) S hM1 ⟨va_cnB n hts hG9 rfl rfl rfl (hN.2 _ hl) (hts _ (hT _ m5)) ⟨m1, m2, m3⟩ hR9, hts _ (hT _ m8), trivial⟩ ⟨h1, h2⟩ rfl hlen hsz rfl (lv_room hW) hdg hf9) hw.2.2 (fun q _ h => wfree hA hw q h) (wfree hA hw) (fun x u t H1 locs1 ht hvm hq9 hB9 hz1 hk1 hS1 => ?_)
    exact kk x u H1 locs1 hq9 ⟨by rw [← ht]; exact hB9.1, hB9.2.2.weaken (fun _ _ _ h => wfree hA hw _ h), hS1⟩
theorem ct_Sl {M9 : MT} {d9 idx n : Nat} {As : List Value} {rest : List Value} {Q9 : Option Value → St → Prop} (S : CallFix p m c cc nL s args Ts own) (hT : ∀ w ∈ allW, w ∈ Ts) (hN : kN s) (hX : kX G.2.1 s) (hAE : ∀ q, A q → G.2.1.1 ≤ q) (hK : va_K G.2.2.1 vwCl (kT5 G) s) (hA : ∀ q, s.heap.size ≤ q → A q) (hw : WH G A s H locs σ)
    (hM : Ct G M9 d9 (As) σ Q9) (hk : M9.2.2.2.2.2 = 2) (hR : d9 + 5 ≤ R.frames ∧ 64 * (d9 + 1) + 400 ≤ R.locals) (hRc : cells ≤ R.cells ∧ slots ≤ R.slots) (hm : MokS M9 n) (hl : MLk own idx M9.1) (hn : As.length = n) (hsz : ls.size = nL) (hW : (rest.map fun v => v.category).sum ≤ 8) (hdg : decode cc pc = .ok (.invokestatic idx, 3))
    (kk : ∀ (x : Int64) (σ9 : St) (H1 : Heap) (locs1 : List Loc), Q9 (some (.long x)) σ9 → WH G A s H1 locs1 σ9 → W p G.1 e R s m args below meth c H1 locs1 cells slots QQ (F0 m (pc + 3) ls (.long x :: rest))) : W p G.1 e R s m args below meth c H locs cells slots QQ (F0 m pc ls ((As.map (cv G)).reverse ++ rest)) := by
  have hM1 : Met G.1 M9.1 (cwd M9 :: allW) (rmd d9) (kPc G.2.1 G.2.2.1 (kT5 G) (As.map (cv G)) H.size (ws9 G σ)) (va_Ql (fun r σ => Q9 (some (.long r)) σ) (QB G (va_A (ws9 G σ) H.size)) (va_A (ws9 G σ) H.size)) 0 0 (va_A (ws9 G σ) H.size) := by
    have h9 := hM H.size
    rw [hk] at h9
    exact h9
  obtain ⟨⟨⟨m1, m2, m3⟩, m4, m5, m6⟩, m8⟩ := hm
  obtain ⟨h1, h2⟩ := ct_pre (M' := M9) (av := (As.map (cv G))) hN hX hAE hK hw
  have hlen : (As.map (cv G)).length = n := by rw [List.length_map]; exact hn
  have hG9 := goodC (Ts := Ts) hT m4
  have hts := S.2.2.2.2
  have hR9 : (rmd d9).frames + 1 ≤ R.frames ∧ 8 + (M9.2.2.1 + 11) + (rmd d9).locals ≤ R.locals := ⟨hR.1, by show 8 + (M9.2.2.1 + 11) + (64 * d9 + 400) ≤ R.locals; omega⟩
  have hf9 : cells + 0 ≤ R.cells ∧ slots + 0 ≤ R.slots := hRc
  rcases hl with hl | ⟨host, hl⟩
  · refine va_calll (va_runS (As := As.map (cv G)) (rest := rest) S hM1 ⟨callB_of n hts hG9 rfl rfl rfl (hts _ (hT _ m5)) (hts _ (hT _ hl)) ⟨m1, m2, m3⟩ hR9, hts _ (hT _ m8)⟩ ⟨h1, h2⟩ rfl hlen hsz rfl (lv_room hW) hdg hf9) hw.2.2 (fun q _ h => wfree hA hw q h) (wfree hA hw) (fun x u t H1 locs1 ht hvm hq9 hB9 hz1 hk1 hS1 => ?_)
    exact kk x u H1 locs1 hq9 ⟨by rw [← ht]; exact hB9.1, hB9.2.2.weaken (fun _ _ _ h => wfree hA hw _ h), hS1⟩
  · refine va_calll (va_runSN (As := As.map (cv G)) (rest := rest) S hM1 ⟨va_cnB n hts hG9 rfl rfl rfl (hN.2 _ hl) (hts _ (hT _ m5)) ⟨m1, m2, m3⟩ hR9, hts _ (hT _ m8), trivial⟩ ⟨h1, h2⟩ rfl hlen hsz rfl (lv_room hW) hdg hf9) hw.2.2 (fun q _ h => wfree hA hw q h) (wfree hA hw) (fun x u t H1 locs1 ht hvm hq9 hB9 hz1 hk1 hS1 => ?_)
    exact kk x u H1 locs1 hq9 ⟨by rw [← ht]; exact hB9.1, hB9.2.2.weaken (fun _ _ _ h => wfree hA hw _ h), hS1⟩
theorem ct_Sv {M9 : MT} {d9 idx n : Nat} {As : List Value} {rest : List Value} {Q9 : Option Value → St → Prop} (S : CallFix p m c cc nL s args Ts own) (hT : ∀ w ∈ allW, w ∈ Ts) (hN : kN s) (hX : kX G.2.1 s) (hAE : ∀ q, A q → G.2.1.1 ≤ q) (hK : va_K G.2.2.1 vwCl (kT5 G) s) (hA : ∀ q, s.heap.size ≤ q → A q) (hw : WH G A s H locs σ)
    (hM : Ct G M9 d9 (As) σ Q9) (hk : M9.2.2.2.2.2 = 0) (hR : d9 + 5 ≤ R.frames ∧ 64 * (d9 + 1) + 400 ≤ R.locals) (hRc : cells ≤ R.cells ∧ slots ≤ R.slots) (hm : MokS M9 n) (hl : MLk own idx M9.1) (hn : As.length = n) (hsz : ls.size = nL) (hW : (rest.map fun v => v.category).sum ≤ 8) (hdg : decode cc pc = .ok (.invokestatic idx, 3))
    (kk : ∀ (σ9 : St) (H1 : Heap) (locs1 : List Loc), Q9 none σ9 → WH G A s H1 locs1 σ9 → W p G.1 e R s m args below meth c H1 locs1 cells slots QQ (F0 m (pc + 3) ls (rest))) : W p G.1 e R s m args below meth c H locs cells slots QQ (F0 m pc ls ((As.map (cv G)).reverse ++ rest)) := by
  have hM1 : Met G.1 M9.1 (cwd M9 :: allW) (rmd d9) (kPc G.2.1 G.2.2.1 (kT5 G) (As.map (cv G)) H.size (ws9 G σ)) (va_Qv (fun σ => Q9 none σ) (QB G (va_A (ws9 G σ) H.size)) (va_A (ws9 G σ) H.size)) 0 0 (va_A (ws9 G σ) H.size) := by
    have h9 := hM H.size
    rw [hk] at h9
    exact h9
  obtain ⟨⟨⟨m1, m2, m3⟩, m4, m5, m6⟩, m8⟩ := hm
  obtain ⟨h1, h2⟩ := ct_pre (M' := M9) (av := (As.map (cv G))) hN hX hAE hK hw
  have hlen : (As.map (cv G)).length = n := by rw [List.length_map]; exact hn
  have hG9 := goodC (Ts := Ts) hT m4
  have hts := S.2.2.2.2
  have hR9 : (rmd d9).frames + 1 ≤ R.frames ∧ 8 + (M9.2.2.1 + 11) + (rmd d9).locals ≤ R.locals := ⟨hR.1, by show 8 + (M9.2.2.1 + 11) + (64 * d9 + 400) ≤ R.locals; omega⟩
  have hf9 : cells + 0 ≤ R.cells ∧ slots + 0 ≤ R.slots := hRc
  rcases hl with hl | ⟨host, hl⟩
  · refine va_callv (va_runS (As := As.map (cv G)) (rest := rest) S hM1 ⟨callB_of n hts hG9 rfl rfl rfl (hts _ (hT _ m5)) (hts _ (hT _ hl)) ⟨m1, m2, m3⟩ hR9, hts _ (hT _ m8)⟩ ⟨h1, h2⟩ rfl hlen hsz rfl (lv_room hW) hdg hf9) hw.2.2 (fun q _ h => wfree hA hw q h) (wfree hA hw) (fun u t H1 locs1 ht hvm hq9 hB9 hz1 hk1 hS1 => ?_)
    exact kk u H1 locs1 hq9 ⟨by rw [← ht]; exact hB9.1, hB9.2.2.weaken (fun _ _ _ h => wfree hA hw _ h), hS1⟩
  · refine va_callv (va_runSN (As := As.map (cv G)) (rest := rest) S hM1 ⟨va_cnB n hts hG9 rfl rfl rfl (hN.2 _ hl) (hts _ (hT _ m5)) ⟨m1, m2, m3⟩ hR9, hts _ (hT _ m8), trivial⟩ ⟨h1, h2⟩ rfl hlen hsz rfl (lv_room hW) hdg hf9) hw.2.2 (fun q _ h => wfree hA hw q h) (wfree hA hw) (fun u t H1 locs1 ht hvm hq9 hB9 hz1 hk1 hS1 => ?_)
    exact kk u H1 locs1 hq9 ⟨by rw [← ht]; exact hB9.1, hB9.2.2.weaken (fun _ _ _ h => wfree hA hw _ h), hS1⟩
theorem ct_Ti {M9 : MT} {d9 idx q n : Nat} {As : List Value} {rest : List Value} {Q9 : Option Value → St → Prop} (S : CallFix p m c cc nL s args Ts own) (hT : ∀ w ∈ allW, w ∈ Ts) (hN : kN s) (hX : kX G.2.1 s) (hAE : ∀ q, A q → G.2.1.1 ≤ q) (hK : va_K G.2.2.1 vwCl (kT5 G) s) (hA : ∀ q, s.heap.size ≤ q → A q) (hw : WH G A s H locs σ)
    (hM : Ct G M9 d9 (.ref q :: As) σ Q9) (hk : M9.2.2.2.2.2 = 1) (hR : d9 + 5 ≤ R.frames ∧ 64 * (d9 + 1) + 400 ≤ R.locals) (hRc : cells ≤ R.cells ∧ slots ≤ R.slots) (hm : MokT M9 n) (hO : va_O M9.1.cls (ga G q) A s s.heap) (hl : MLk own idx M9.1) (hn : As.length = n) (hsz : ls.size = nL) (hW : (rest.map fun v => v.category).sum ≤ 8) (hdg : decode cc pc = .ok (.invokevirtual idx, 3))
    (kk : ∀ (x : Int32) (σ9 : St) (H1 : Heap) (locs1 : List Loc), Q9 (some (.int x)) σ9 → WH G A s H1 locs1 σ9 → W p G.1 e R s m args below meth c H1 locs1 cells slots QQ (F0 m (pc + 3) ls (.int x :: rest))) : W p G.1 e R s m args below meth c H locs cells slots QQ (F0 m pc ls ((As.map (cv G)).reverse ++ .ref (ga G q) :: rest)) := by
  have hM1 : Met G.1 M9.1 (cwd M9 :: allW) (rmd d9) (kPc G.2.1 G.2.2.1 (kT5 G) (.ref (ga G q) :: As.map (cv G)) H.size (ws9 G σ)) (va_Qi (fun r σ => Q9 (some (.int r)) σ) (QB G (va_A (ws9 G σ) H.size)) (va_A (ws9 G σ) H.size)) 0 0 (va_A (ws9 G σ) H.size) := by
    have h9 := hM H.size
    rw [hk] at h9
    exact h9
  obtain ⟨⟨⟨m1, m2, m3⟩, m4, m5, m6⟩, -, m8, m9⟩ := hm
  obtain ⟨h1, h2⟩ := ct_pre (M' := M9) (av := (.ref (ga G q) :: As.map (cv G))) hN hX hAE hK hw
  have hlen : (As.map (cv G)).length = n := by rw [List.length_map]; exact hn
  have hG9 := goodC (Ts := Ts) hT m4
  have hts := S.2.2.2.2
  have hR9 : (rmd d9).frames + 1 ≤ R.frames ∧ 8 + (M9.2.2.1 + 11) + (rmd d9).locals ≤ R.locals := ⟨hR.1, by show 8 + (M9.2.2.1 + 11) + (64 * d9 + 400) ≤ R.locals; omega⟩
  have hf9 : cells + 0 ≤ R.cells ∧ slots + 0 ≤ R.slots := hRc
  rcases hl with hl | ⟨host, hl⟩
  · refine va_calli (va_runV (C := M9.1.cls) (As := As.map (cv G)) (rest := rest) S hM1 ⟨callB_of n hts hG9 rfl rfl rfl (hts _ (hT _ m5)) (hts _ (hT _ hl)) ⟨m1, m2, m3⟩ hR9, hts _ (hT _ m8), hts _ (hT _ m9)⟩ ⟨h1, va_Orecv hO hw.2.2, h2⟩ rfl hlen hsz rfl (lv_room hW) hdg hf9) hw.2.2 (fun q _ h => wfree hA hw q h) (wfree hA hw) (fun x u t H1 locs1 ht hvm hq9 hB9 hz1 hk1 hS1 => ?_)
    exact kk x u H1 locs1 hq9 ⟨by rw [← ht]; exact hB9.1, hB9.2.2.weaken (fun _ _ _ h => wfree hA hw _ h), hS1⟩
  · refine va_calli (va_runVN (C := M9.1.cls) (As := As.map (cv G)) (rest := rest) S hM1 ⟨va_cnB n hts hG9 rfl rfl rfl (hN.2 _ hl) (hts _ (hT _ m5)) ⟨m1, m2, m3⟩ hR9, hts _ (hT _ m8), hts _ (hT _ m9)⟩ ⟨h1, va_Orecv hO hw.2.2, h2⟩ rfl hlen hsz rfl (lv_room hW) hdg hf9) hw.2.2 (fun q _ h => wfree hA hw q h) (wfree hA hw) (fun x u t H1 locs1 ht hvm hq9 hB9 hz1 hk1 hS1 => ?_)
    exact kk x u H1 locs1 hq9 ⟨by rw [← ht]; exact hB9.1, hB9.2.2.weaken (fun _ _ _ h => wfree hA hw _ h), hS1⟩
end PC
theorem wa_Vi {M9 : MT} {d9 idx q ci n : Nat} (As rest : List Value) {Q9 : Option Value → St → Prop} (hM : Ct G M9 d9 (.ref q :: As) σ Q9) (hst : st = As.reverse ++ .ref q :: rest) (hn : As.length = n) (hk : M9.2.2.2.2.2 = 1) (hz : ZR Z d9) (hm : MokV M9 ci n) (hq : layL.getD q (9, 0) = (0, ci)) (hl : MLk M.2.2.2.2.1 idx M9.1) (hW : (rest.map fun v => v.category).sum ≤ 8)
    (kk : ∀ (x : Int32) (σ9 : St), Q9 (some (.int x)) σ9 → WA G M Z B lv (.int x :: rest) σ9) : WA G M Z ((pc, .invokevirtual idx, 3) :: B) lv st σ := by
  subst hst
  refine ⟨List.cons_ne_nil _ _, fun hB p e s m args below meth c H locs A ls hc hx hw hl9 => ?_⟩
  have h9 := ct_Vi (rest := rest.map (cv G)) (pc := pc) (R := Z.1) (e := e) (below := below) (meth := meth) (QQ := Z.2.2.2.2 below args s A) (ls := ls) (cells := Z.2.1) (slots := Z.2.2.1) ⟨hc.1, hc.2.1, hc.2.2.2.1, hc.2.2.2.2.1, hc.2.2.2.2.2.1⟩ (fun w h => List.mem_cons_of_mem _ h) hc.2.2.2.2.2.2.2.1 hc.2.2.2.2.2.2.2.2.1 hc.2.2.2.2.2.2.2.2.2.1 hc.2.2.2.2.2.2.2.2.2.2.1 hc.2.2.2.2.2.2.2.2.2.2.2 hw hM hk hz.1 hz.2 hm hq hl hn hl9.1 (by rw [List.map_map, show ((fun v => Value.category v) ∘ cv G) = fun v => Value.category v from funext fun v => cv_cat G v]; exact hW) hB.dec (fun x σ9 H1 locs1 hq9 hw9 => ?_)
  · rw [List.map_append, List.map_reverse]
    exact h9
  · have k0 := kk x σ9 hq9
    have k9 := k0.2 hB.tl p e s m args below meth c H1 locs1 A ls hc hx hw9 hl9
    rw [hB.nx k0.1] at k9
    exact k9
theorem wa_Vl {M9 : MT} {d9 idx q ci n : Nat} (As rest : List Value) {Q9 : Option Value → St → Prop} (hM : Ct G M9 d9 (.ref q :: As) σ Q9) (hst : st = As.reverse ++ .ref q :: rest) (hn : As.length = n) (hk : M9.2.2.2.2.2 = 2) (hz : ZR Z d9) (hm : MokV M9 ci n) (hq : layL.getD q (9, 0) = (0, ci)) (hl : MLk M.2.2.2.2.1 idx M9.1) (hW : (rest.map fun v => v.category).sum ≤ 8)
    (kk : ∀ (x : Int64) (σ9 : St), Q9 (some (.long x)) σ9 → WA G M Z B lv (.long x :: rest) σ9) : WA G M Z ((pc, .invokevirtual idx, 3) :: B) lv st σ := by
  subst hst
  refine ⟨List.cons_ne_nil _ _, fun hB p e s m args below meth c H locs A ls hc hx hw hl9 => ?_⟩
  have h9 := ct_Vl (rest := rest.map (cv G)) (pc := pc) (R := Z.1) (e := e) (below := below) (meth := meth) (QQ := Z.2.2.2.2 below args s A) (ls := ls) (cells := Z.2.1) (slots := Z.2.2.1) ⟨hc.1, hc.2.1, hc.2.2.2.1, hc.2.2.2.2.1, hc.2.2.2.2.2.1⟩ (fun w h => List.mem_cons_of_mem _ h) hc.2.2.2.2.2.2.2.1 hc.2.2.2.2.2.2.2.2.1 hc.2.2.2.2.2.2.2.2.2.1 hc.2.2.2.2.2.2.2.2.2.2.1 hc.2.2.2.2.2.2.2.2.2.2.2 hw hM hk hz.1 hz.2 hm hq hl hn hl9.1 (by rw [List.map_map, show ((fun v => Value.category v) ∘ cv G) = fun v => Value.category v from funext fun v => cv_cat G v]; exact hW) hB.dec (fun x σ9 H1 locs1 hq9 hw9 => ?_)
  · rw [List.map_append, List.map_reverse]
    exact h9
  · have k0 := kk x σ9 hq9
    have k9 := k0.2 hB.tl p e s m args below meth c H1 locs1 A ls hc hx hw9 hl9
    rw [hB.nx k0.1] at k9
    exact k9
theorem wa_Vv {M9 : MT} {d9 idx q ci n : Nat} (As rest : List Value) {Q9 : Option Value → St → Prop} (hM : Ct G M9 d9 (.ref q :: As) σ Q9) (hst : st = As.reverse ++ .ref q :: rest) (hn : As.length = n) (hk : M9.2.2.2.2.2 = 0) (hz : ZR Z d9) (hm : MokV M9 ci n) (hq : layL.getD q (9, 0) = (0, ci)) (hl : MLk M.2.2.2.2.1 idx M9.1) (hW : (rest.map fun v => v.category).sum ≤ 8)
    (kk : ∀ (σ9 : St), Q9 none σ9 → WA G M Z B lv (rest) σ9) : WA G M Z ((pc, .invokevirtual idx, 3) :: B) lv st σ := by
  subst hst
  refine ⟨List.cons_ne_nil _ _, fun hB p e s m args below meth c H locs A ls hc hx hw hl9 => ?_⟩
  have h9 := ct_Vv (rest := rest.map (cv G)) (pc := pc) (R := Z.1) (e := e) (below := below) (meth := meth) (QQ := Z.2.2.2.2 below args s A) (ls := ls) (cells := Z.2.1) (slots := Z.2.2.1) ⟨hc.1, hc.2.1, hc.2.2.2.1, hc.2.2.2.2.1, hc.2.2.2.2.2.1⟩ (fun w h => List.mem_cons_of_mem _ h) hc.2.2.2.2.2.2.2.1 hc.2.2.2.2.2.2.2.2.1 hc.2.2.2.2.2.2.2.2.2.1 hc.2.2.2.2.2.2.2.2.2.2.1 hc.2.2.2.2.2.2.2.2.2.2.2 hw hM hk hz.1 hz.2 hm hq hl hn hl9.1 (by rw [List.map_map, show ((fun v => Value.category v) ∘ cv G) = fun v => Value.category v from funext fun v => cv_cat G v]; exact hW) hB.dec (fun σ9 H1 locs1 hq9 hw9 => ?_)
  · rw [List.map_append, List.map_reverse]
    exact h9
  · have k0 := kk σ9 hq9
    have k9 := k0.2 hB.tl p e s m args below meth c H1 locs1 A ls hc hx hw9 hl9
    rw [hB.nx k0.1] at k9
    exact k9
theorem wa_Si {M9 : MT} {d9 idx n : Nat} (As rest : List Value) {Q9 : Option Value → St → Prop} (hM : Ct G M9 d9 (As) σ Q9) (hst : st = As.reverse ++ rest) (hn : As.length = n) (hk : M9.2.2.2.2.2 = 1) (hz : ZR Z d9) (hm : MokS M9 n) (hl : MLk M.2.2.2.2.1 idx M9.1) (hW : (rest.map fun v => v.category).sum ≤ 8)
    (kk : ∀ (x : Int32) (σ9 : St), Q9 (some (.int x)) σ9 → WA G M Z B lv (.int x :: rest) σ9) : WA G M Z ((pc, .invokestatic idx, 3) :: B) lv st σ := by
  subst hst
  refine ⟨List.cons_ne_nil _ _, fun hB p e s m args below meth c H locs A ls hc hx hw hl9 => ?_⟩
  have h9 := ct_Si (rest := rest.map (cv G)) (pc := pc) (R := Z.1) (e := e) (below := below) (meth := meth) (QQ := Z.2.2.2.2 below args s A) (ls := ls) (cells := Z.2.1) (slots := Z.2.2.1) ⟨hc.1, hc.2.1, hc.2.2.2.1, hc.2.2.2.2.1, hc.2.2.2.2.2.1⟩ (fun w h => List.mem_cons_of_mem _ h) hc.2.2.2.2.2.2.2.1 hc.2.2.2.2.2.2.2.2.1 hc.2.2.2.2.2.2.2.2.2.1 hc.2.2.2.2.2.2.2.2.2.2.1 hc.2.2.2.2.2.2.2.2.2.2.2 hw hM hk hz.1 hz.2 hm hl hn hl9.1 (by rw [List.map_map, show ((fun v => Value.category v) ∘ cv G) = fun v => Value.category v from funext fun v => cv_cat G v]; exact hW) hB.dec (fun x σ9 H1 locs1 hq9 hw9 => ?_)
  · rw [List.map_append, List.map_reverse]
    exact h9
  · have k0 := kk x σ9 hq9
    have k9 := k0.2 hB.tl p e s m args below meth c H1 locs1 A ls hc hx hw9 hl9
    rw [hB.nx k0.1] at k9
    exact k9
theorem wa_Sl {M9 : MT} {d9 idx n : Nat} (As rest : List Value) {Q9 : Option Value → St → Prop} (hM : Ct G M9 d9 (As) σ Q9) (hst : st = As.reverse ++ rest) (hn : As.length = n) (hk : M9.2.2.2.2.2 = 2) (hz : ZR Z d9) (hm : MokS M9 n) (hl : MLk M.2.2.2.2.1 idx M9.1) (hW : (rest.map fun v => v.category).sum ≤ 8)
    (kk : ∀ (x : Int64) (σ9 : St), Q9 (some (.long x)) σ9 → WA G M Z B lv (.long x :: rest) σ9) : WA G M Z ((pc, .invokestatic idx, 3) :: B) lv st σ := by
  subst hst
  refine ⟨List.cons_ne_nil _ _, fun hB p e s m args below meth c H locs A ls hc hx hw hl9 => ?_⟩
  have h9 := ct_Sl (rest := rest.map (cv G)) (pc := pc) (R := Z.1) (e := e) (below := below) (meth := meth) (QQ := Z.2.2.2.2 below args s A) (ls := ls) (cells := Z.2.1) (slots := Z.2.2.1) ⟨hc.1, hc.2.1, hc.2.2.2.1, hc.2.2.2.2.1, hc.2.2.2.2.2.1⟩ (fun w h => List.mem_cons_of_mem _ h) hc.2.2.2.2.2.2.2.1 hc.2.2.2.2.2.2.2.2.1 hc.2.2.2.2.2.2.2.2.2.1 hc.2.2.2.2.2.2.2.2.2.2.1 hc.2.2.2.2.2.2.2.2.2.2.2 hw hM hk hz.1 hz.2 hm hl hn hl9.1 (by rw [List.map_map, show ((fun v => Value.category v) ∘ cv G) = fun v => Value.category v from funext fun v => cv_cat G v]; exact hW) hB.dec (fun x σ9 H1 locs1 hq9 hw9 => ?_)
  · rw [List.map_append, List.map_reverse]
    exact h9
  · have k0 := kk x σ9 hq9
    have k9 := k0.2 hB.tl p e s m args below meth c H1 locs1 A ls hc hx hw9 hl9
    rw [hB.nx k0.1] at k9
    exact k9
theorem wa_Sv {M9 : MT} {d9 idx n : Nat} (As rest : List Value) {Q9 : Option Value → St → Prop} (hM : Ct G M9 d9 (As) σ Q9) (hst : st = As.reverse ++ rest) (hn : As.length = n) (hk : M9.2.2.2.2.2 = 0) (hz : ZR Z d9) (hm : MokS M9 n) (hl : MLk M.2.2.2.2.1 idx M9.1) (hW : (rest.map fun v => v.category).sum ≤ 8)
    (kk : ∀ (σ9 : St), Q9 none σ9 → WA G M Z B lv (rest) σ9) : WA G M Z ((pc, .invokestatic idx, 3) :: B) lv st σ := by
  subst hst
  refine ⟨List.cons_ne_nil _ _, fun hB p e s m args below meth c H locs A ls hc hx hw hl9 => ?_⟩
  have h9 := ct_Sv (rest := rest.map (cv G)) (pc := pc) (R := Z.1) (e := e) (below := below) (meth := meth) (QQ := Z.2.2.2.2 below args s A) (ls := ls) (cells := Z.2.1) (slots := Z.2.2.1) ⟨hc.1, hc.2.1, hc.2.2.2.1, hc.2.2.2.2.1, hc.2.2.2.2.2.1⟩ (fun w h => List.mem_cons_of_mem _ h) hc.2.2.2.2.2.2.2.1 hc.2.2.2.2.2.2.2.2.1 hc.2.2.2.2.2.2.2.2.2.1 hc.2.2.2.2.2.2.2.2.2.2.1 hc.2.2.2.2.2.2.2.2.2.2.2 hw hM hk hz.1 hz.2 hm hl hn hl9.1 (by rw [List.map_map, show ((fun v => Value.category v) ∘ cv G) = fun v => Value.category v from funext fun v => cv_cat G v]; exact hW) hB.dec (fun σ9 H1 locs1 hq9 hw9 => ?_)
  · rw [List.map_append, List.map_reverse]
    exact h9
  · have k0 := kk σ9 hq9
    have k9 := k0.2 hB.tl p e s m args below meth c H1 locs1 A ls hc hx hw9 hl9
    rw [hB.nx k0.1] at k9
    exact k9
theorem wa_Ti {M9 : MT} {d9 idx n : Nat} (q : Nat × String × Nat × String × Nat × List Int32) (As rest : List Value) {Q9 : Option Value → St → Prop} (hM : Ct G M9 d9 (.ref (1000 + q.1) :: As) σ Q9) (hst : st = As.reverse ++ .ref (1000 + q.1) :: rest) (hn : As.length = n) (hk : M9.2.2.2.2.2 = 1) (hz : ZR Z d9) (hm : MokT M9 n) (hq : q ∈ kSq) (hl : MLk M.2.2.2.2.1 idx M9.1) (hW : (rest.map fun v => v.category).sum ≤ 8)
    (kk : ∀ (x : Int32) (σ9 : St), Q9 (some (.int x)) σ9 → WA G M Z B lv (.int x :: rest) σ9) : WA G M Z ((pc, .invokevirtual idx, 3) :: B) lv st σ := by
  subst hst
  refine ⟨List.cons_ne_nil _ _, fun hB p e s m args below meth c H locs A ls hc hx hw hl9 => ?_⟩
  have h9 := ct_Ti (rest := rest.map (cv G)) (pc := pc) (R := Z.1) (e := e) (below := below) (meth := meth) (QQ := Z.2.2.2.2 below args s A) (ls := ls) (cells := Z.2.1) (slots := Z.2.2.1) ⟨hc.1, hc.2.1, hc.2.2.2.1, hc.2.2.2.2.1, hc.2.2.2.2.2.1⟩ (fun w h => List.mem_cons_of_mem _ h) hc.2.2.2.2.2.2.2.1 hc.2.2.2.2.2.2.2.2.1 hc.2.2.2.2.2.2.2.2.2.1 hc.2.2.2.2.2.2.2.2.2.2.1 hc.2.2.2.2.2.2.2.2.2.2.2 hw hM hk hz.1 hz.2 hm (by rw [hm.2.1, ga_t G (kq_lt hq)]; exact kX.to hc.2.2.2.2.2.2.2.2.1 hc.2.2.2.2.2.2.2.2.2.1 q hq) hl hn hl9.1 (by rw [List.map_map, show ((fun v => Value.category v) ∘ cv G) = fun v => Value.category v from funext fun v => cv_cat G v]; exact hW) hB.dec (fun x σ9 H1 locs1 hq9 hw9 => ?_)
  · rw [List.map_append, List.map_reverse]
    exact h9
  · have k0 := kk x σ9 hq9
    have k9 := k0.2 hB.tl p e s m args below meth c H1 locs1 A ls hc hx hw9 hl9
    rw [hB.nx k0.1] at k9
    exact k9
end PM
