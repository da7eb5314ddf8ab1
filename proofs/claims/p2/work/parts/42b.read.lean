-- ===== nodes and open formulas of the reference =====
abbrev nN (σ : St) (s : Nat) : Nat := (gi σ 194 s).toInt.toNat
abbrev inN (σ : St) (s k : Nat) : Prop := 250 * s ≤ k ∧ k < 250 * s + nN σ s
def set9 (f : Nat → Nat) (K l : Nat) : Nat → Nat := fun k => if k = K then l else f k
theorem set9_eq {f : Nat → Nat} {K l : Nat} : set9 f K l K = l := by unfold set9; rw [if_pos rfl]
theorem set9_ne {f : Nat → Nat} {K l y : Nat} (h : ¬ y = K) : set9 f K l y = f y := by unfold set9; rw [if_neg h]
/-- what comes behind k among those of S -/
def SUC (nx : Int) (lo : Nat → Nat) (S : Nat → Prop) (k : Nat) : Prop := (nx = -1 ∧ ∀ z, S z → z ≤ k) ∨ ∃ z : Nat, nx = z ∧ S z ∧ k < lo z ∧ ∀ z', S z' → z' ≤ k ∨ z ≤ z'
abbrev RS9 (σ : St) (s : Nat) (ow : Nat → Nat) (C z : Nat) : Prop := inN σ s z ∧ ow z = C
theorem SUC.cg {nx : Int} {lo lo' : Nat → Nat} {S S' : Nat → Prop} {k : Nat} (h : SUC nx lo S k) (e : ∀ z, S' z ↔ S z) (el : ∀ z, S z → lo' z = lo z) : SUC nx lo' S' k := by
  rcases h with ⟨h1, h2⟩ | ⟨z, h1, h2, h3, h4⟩
  · exact Or.inl ⟨h1, fun z hz => h2 z ((e z).mp hz)⟩
  · exact Or.inr ⟨z, h1, (e z).mpr h2, by rw [el z h2]; exact h3, fun z' hz' => h4 z' ((e z').mp hz')⟩
/-- of one node: where what belongs to it begins, what comes behind it, its row, whose it is -/
def NDK (σ : St) (s : Nat) (lo ow : Nat → Nat) (X k : Nat) : Prop :=
  (250 * s ≤ lo k ∧ lo k ≤ k) ∧ ((gi σ 195 k).toInt = -1 ∨ ∃ z : Nat, (gi σ 195 k).toInt = z ∧ z < 250 * s + nN σ s ∧ k < z) ∧
  (¬ ow k = 7000 → ¬ ow k = 8000 → ¬ ow k = X → SUC (gi σ 195 k).toInt lo (RS9 σ s ow (ow k)) k) ∧
  ((gi σ 198 k).toInt = 3 ∨ (gi σ 198 k).toInt = 4 → ∃ a : Nat, (gi σ 197 k).toInt = a ∧ 250 * s ≤ a ∧ a < k ∧ lo k ≤ lo a ∧ (¬ ow k = 7000 → ow a = k ∧ ∀ z, RS9 σ s ow k z → a ≤ z)) ∧
  (7000 ≤ ow k ∨ (k < ow k ∧ ow k < 250 * s + nN σ s ∧ lo (ow k) ≤ lo k)) ∧ (ow k = 8000 → (gi σ 195 k).toInt = -1)
/-- nodes of the slot that is read; lo: where what belongs to a node begins; ow: whose a node is (a row's node; 7000: nobody's any more; 8000: to come; from 10000 on: an open formula's row); of row X it's not said what comes behind one -/
def NDI (σ : St) (s : Nat) (lo ow : Nat → Nat) (X : Nat) : Prop := (0 ≤ (gi σ 194 s).toInt ∧ (gi σ 194 s).toInt ≤ 250 ∧ s ≤ 25) ∧ ∀ k, inN σ s k → NDK σ s lo ow X k
def NEWN (σ σ' : St) (s : Nat) (kd a b : Int32) : Prop :=
  (∀ k, gi σ' 198 k = if k = 250 * s + nN σ s then kd else gi σ 198 k) ∧ (∀ k, gi σ' 197 k = if k = 250 * s + nN σ s then a else gi σ 197 k) ∧
  (∀ k, gi σ' 196 k = if k = 250 * s + nN σ s then b else gi σ 196 k) ∧ (∀ k, gi σ' 195 k = if k = 250 * s + nN σ s then -1 else gi σ 195 k) ∧
  (∀ j, (gi σ' 194 j).toInt = if j = s then (gi σ 194 s).toInt + 1 else (gi σ 194 j).toInt)
theorem newn_of {σ s1 s2 s3 s4 s5 : St} {s k : Nat} {kd a b m v : Int32} (e1 : s1 = si σ 198 k kd) (e2 : s2 = si s1 197 k a) (e3 : s3 = si s2 196 k b) (e4 : s4 = si s3 195 k m) (hm : m = -1) (e5 : s5 = si s4 194 s v) (hk : k = 250 * s + nN σ s) (hv : v.toInt = (gi σ 194 s).toInt + 1) : NEWN σ s5 s kd a b := by
  subst hk hm
  rw [e4, e3, e2, e1] at e5
  subst e5
  refine ⟨fun j => ?_, fun j => ?_, fun j => ?_, fun j => ?_, fun j => ?_⟩
  · simp [gi_si]
  · simp [gi_si]
  · simp [gi_si]
  · simp [gi_si]
  · simp only [gi_si]
    by_cases c : j = s
    · subst c; simp [hv]
    · simp [c]
theorem newn_nN {σ σ' : St} {s : Nat} {kd a b : Int32} (w : NEWN σ σ' s kd a b) (h : 0 ≤ (gi σ 194 s).toInt) : nN σ' s = nN σ s + 1 := by
  have := w.2.2.2.2 s
  rw [if_pos rfl] at this
  show (gi σ' 194 s).toInt.toNat = (gi σ 194 s).toInt.toNat + 1
  omega
theorem ndi_top {σ : St} {s X : Nat} {lo ow : Nat → Nat} (h : NDI σ s lo ow X) : 250 * s + nN σ s < 7000 := by
  have := h.1
  show 250 * s + (gi σ 194 s).toInt.toNat < 7000
  omega
/-- a node more; those of row C are now its own -/
def own9 (ow : Nat → Nat) (K C : Nat) : Nat → Nat := fun k => if k = K then 8000 else if ow k = C then K else ow k
theorem nd_new {σ σ' : St} {s : Nat} {lo ow : Nat → Nat} {kd a b : Int32} {K l C : Nat} (h : NDI σ s lo ow 7000) (w : NEWN σ σ' s kd a b) (hK : K = 250 * s + nN σ s) (hN : nN σ s ≤ 249) (hC : 10000 ≤ C) (hl : 250 * s ≤ l ∧ l ≤ K) (hz : ∀ z, RS9 σ s ow C z → l ≤ lo z) (ha : kd.toInt = 3 ∨ kd.toInt = 4 → ∃ a' : Nat, a.toInt = a' ∧ RS9 σ s ow C a' ∧ ∀ z, RS9 σ s ow C z → a' ≤ z) : NDI σ' s (set9 lo K l) (own9 ow K C) 7000 := by
  have n1 := newn_nN w h.1.1
  have top := ndi_top h
  obtain ⟨w8, w7, w6, w5, w4⟩ := w
  rw [← hK] at w8 w7 w5
  have w4s := w4 s
  rw [if_pos rfl] at w4s
  have e9 : nN σ s = (gi σ 194 s).toInt.toNat := rfl
  have eoK : own9 ow K C K = 8000 := by unfold own9; rw [if_pos rfl]
  have eo : ∀ k, ¬ k = K → own9 ow K C k = if ow k = C then K else ow k := fun k c => by unfold own9; rw [if_neg c]
  have old : ∀ z, inN σ' s z → ¬ z = K → inN σ s z := fun z hz c => ⟨hz.1, by have := hz.2; omega⟩
  have up : ∀ z, inN σ s z → inN σ' s z ∧ ¬ z = K := fun z hz => ⟨⟨hz.1, by have := hz.2; omega⟩, by have := hz.2; omega⟩
  have nK : ∀ z, inN σ s z → ¬ ow z = K := fun z hz q => by
    rcases (h.2 z hz).2.2.2.2.1 with g | g
    · omega
    · omega
  have rs : ∀ D, ¬ D = 8000 → ¬ D = K → ¬ D = C → ∀ z, RS9 σ' s (own9 ow K C) D z ↔ RS9 σ s ow D z := fun D d1 d2 d3 z => by
    constructor
    · intro q
      by_cases c : z = K
      · have := q.2; rw [c, eoK] at this; omega
      · have q2 := q.2
        rw [eo z c] at q2
        split at q2
        · exact absurd q2.symm d2
        · exact ⟨old z q.1 c, q2⟩
    · intro q
      have u := up z q.1
      refine ⟨u.1, ?_⟩
      rw [eo z u.2, if_neg (fun g => d3 (q.2.symm.trans g))]; exact q.2
  have rsK : ∀ z, RS9 σ' s (own9 ow K C) K z ↔ RS9 σ s ow C z := fun z => by
    constructor
    · intro q
      by_cases c : z = K
      · have := q.2; rw [c, eoK] at this; omega
      · have q2 := q.2
        have o := old z q.1 c
        rw [eo z c] at q2
        split at q2
        · rename_i g; exact ⟨o, g⟩
        · exact absurd q2 (nK z o)
    · intro q
      have u := up z q.1
      exact ⟨u.1, by rw [eo z u.2, if_pos q.2]⟩
  have h11 := h.1.1
  have h12 := h.1.2.1
  refine ⟨⟨by omega, by omega, h.1.2.2⟩, fun k hk => ?_⟩
  by_cases c : k = K
  · subst c
    refine ⟨by rw [set9_eq]; exact hl, ?_, fun _ g => absurd eoK g, fun g => ?_, Or.inl (by rw [eoK]; decide), fun _ => ?_⟩
    · rw [w5, if_pos rfl]; exact Or.inl (by decide)
    · rw [w8, if_pos rfl] at g
      obtain ⟨a', a1, a2, a3⟩ := ha g
      refine ⟨a', by rw [w7, if_pos rfl]; exact a1, a2.1.1, by have := a2.1.2; omega, ?_, fun _ => ?_⟩
      · rw [set9_eq, set9_ne (by have := a2.1.2; omega)]; exact hz a' a2
      · exact ⟨((rsK a').mpr a2).2, fun z hz' => a3 z ((rsK z).mp hz')⟩
    · rw [w5, if_pos rfl]; decide
  · have hk' := old k hk c
    obtain ⟨g1, g2, g3, g4, g5, g6⟩ := h.2 k hk'
    have k2 := hk'.2
    refine ⟨by rw [set9_ne c]; exact g1, ?_, fun d1 d2 d3 => ?_, fun g => ?_, ?_, ?_⟩
    · rw [w5, if_neg c]
      rcases g2 with g2 | ⟨z, z1, z2, z3⟩
      · exact Or.inl g2
      · exact Or.inr ⟨z, z1, by omega, z3⟩
    · rw [w5, if_neg c]
      by_cases d : ow k = C
      · have e1 : own9 ow K C k = K := by rw [eo k c, if_pos d]
        rw [e1]
        refine (g3 (by omega) (by omega) (by omega)).cg (fun z => ?_) (fun z hz' => set9_ne (by have := hz'.1.2; omega))
        rw [d]; exact rsK z
      · have e1 : own9 ow K C k = ow k := by rw [eo k c, if_neg d]
        rw [e1] at d1 d2 d3 ⊢
        exact (g3 d1 d2 d3).cg (rs (ow k) d2 (nK k hk') d) (fun z hz' => set9_ne (by have := hz'.1.2; omega))
    · rw [w8, if_neg c] at g
      obtain ⟨a', a1, a2, a3, a4, a5⟩ := g4 g
      refine ⟨a', by rw [w7, if_neg c]; exact a1, a2, a3, by rw [set9_ne c, set9_ne (by omega)]; exact a4, fun q => ?_⟩
      have q' : ¬ ow k = 7000 := fun z => q (by rw [eo k c, if_neg (by omega)]; exact z)
      obtain ⟨b1, b2⟩ := a5 q'
      exact ⟨by rw [eo a' (by omega), if_neg (by omega)]; exact b1, fun z hz' => b2 z ((rs k (by omega) c (by omega) z).mp hz')⟩
    · rw [eo k c]
      split
      · rename_i d
        refine Or.inr ⟨by omega, by omega, ?_⟩
        rw [set9_eq, set9_ne c]; exact hz k ⟨hk', d⟩
      · rcases g5 with g5 | g5
        · exact Or.inl g5
        · exact Or.inr ⟨g5.1, by omega, by rw [set9_ne (by omega), set9_ne c]; exact g5.2.2⟩
    · rw [w5, if_neg c, eo k c]
      split
      · intro q; omega
      · exact g6
theorem NDI_of {σ σ' : St} {s X : Nat} {lo ow : Nat → Nat} (e4 : ∀ k, gi σ' 194 k = gi σ 194 k) (e5 : ∀ k, gi σ' 195 k = gi σ 195 k) (e7 : ∀ k, gi σ' 197 k = gi σ 197 k) (e8 : ∀ k, gi σ' 198 k = gi σ 198 k) (h : NDI σ s lo ow X) : NDI σ' s lo ow X := by
  unfold NDI NDK RS9 inN nN at h ⊢
  simp only [e4, e5, e7, e8]
  exact h
/-- a node that was to come is the last of row C (y: the last ahead of it) -/
theorem nd_put {σ σ' : St} {s x C : Nat} {lo ow : Nat → Nat} (h : NDI σ s lo ow 7000) (hx : inN σ s x) (ho : ow x = 8000) (hC : 10000 ≤ C) (hz : ∀ z, RS9 σ s ow C z → z < lo x)
    (e : (σ' = σ ∧ ∀ z, ¬ RS9 σ s ow C z) ∨ ∃ (y : Nat) (v : Int32), σ' = si σ 195 y v ∧ v.toInt = x ∧ RS9 σ s ow C y ∧ ∀ z, RS9 σ s ow C z → z ≤ y) : NDI σ' s lo (set9 ow x C) 7000 := by
  have f : ∀ q k, ¬ q = 195 → gi σ' q k = gi σ q k := fun q k c => by
    rcases e with e | ⟨y, v, e, _⟩
    · rw [e.1]
    · rw [e, gi_si, if_neg (fun g => c g.1)]
  have f5 : ∀ k, (gi σ' 195 k).toInt = (gi σ 195 k).toInt ∨ (RS9 σ s ow C k ∧ (∀ z, RS9 σ s ow C z → z ≤ k) ∧ (gi σ' 195 k).toInt = x) := fun k => by
    rcases e with e | ⟨y, v, e, e1, e2, e3⟩
    · rw [e.1]; exact Or.inl rfl
    · rw [e, gi_si]
      by_cases c : k = y
      · rw [if_pos ⟨rfl, c⟩]; subst c; exact Or.inr ⟨e2, e3, e1⟩
      · rw [if_neg (fun g => c g.2)]; exact Or.inl rfl
  have fl : ∀ y, RS9 σ s ow C y → (∀ z, RS9 σ s ow C z → z ≤ y) → (gi σ' 195 y).toInt = x := fun y hy hm => by
    rcases e with e | ⟨y', v, e, e1, e2, e3⟩
    · exact absurd hy (e.2 y)
    · have := e3 y hy
      have := hm y' e2
      have ey : y = y' := by omega
      rw [e, gi_si, if_pos ⟨rfl, ey⟩]; exact e1
  have n0 : nN σ' s = nN σ s := by show (gi σ' 194 s).toInt.toNat = _; rw [f 194 _ (by decide)]
  have lx := (h.2 x hx).1
  have nx8 := (h.2 x hx).2.2.2.2.2 ho
  have x5 : (gi σ' 195 x).toInt = -1 := by
    rcases f5 x with g | g
    · rw [g]; exact nx8
    · have := g.1.2; omega
  have rs : ∀ D, ¬ D = C → ¬ D = 8000 → ∀ z, RS9 σ' s (set9 ow x C) D z ↔ RS9 σ s ow D z := fun D d1 d2 z => by
    unfold RS9 inN
    rw [n0]
    by_cases c : z = x
    · rw [c, set9_eq, ho]
      exact ⟨fun q => absurd q.2.symm d1, fun q => absurd q.2.symm d2⟩
    · rw [set9_ne c]
  have rsC : ∀ z, RS9 σ' s (set9 ow x C) C z ↔ RS9 σ s ow C z ∨ z = x := fun z => by
    unfold RS9 inN
    rw [n0]
    by_cases c : z = x
    · rw [c, set9_eq]; exact ⟨fun _ => Or.inr rfl, fun _ => ⟨hx, rfl⟩⟩
    · rw [set9_ne c]; exact ⟨Or.inl, fun q => q.resolve_right c⟩
  have top := ndi_top h
  refine ⟨⟨by rw [f 194 _ (by decide)]; exact h.1.1, by rw [f 194 _ (by decide)]; exact h.1.2.1, h.1.2.2⟩, fun k hk => ?_⟩
  have hk' : inN σ s k := ⟨hk.1, by rw [← n0]; exact hk.2⟩
  obtain ⟨g1, g2, g3, g4, g5, g6⟩ := h.2 k hk'
  have kt := hk'.2
  by_cases c : k = x
  · subst c
    have e1 : set9 ow k C k = C := set9_eq
    refine ⟨g1, Or.inl x5, fun _ _ _ => ?_, fun g => ?_, Or.inl (by rw [e1]; omega), fun q => by rw [e1] at q; omega⟩
    · rw [e1]
      refine Or.inl ⟨x5, fun z hz' => ?_⟩
      rcases (rsC z).mp hz' with g | g
      · have := hz z g; omega
      · omega
    · rw [f 198 _ (by decide)] at g
      obtain ⟨a, a1, a2, a3, a4, a5⟩ := g4 g
      obtain ⟨b1, b2⟩ := a5 (by omega)
      exact ⟨a, by rw [f 197 _ (by decide)]; exact a1, a2, a3, a4, fun _ => ⟨by rw [set9_ne (by omega)]; exact b1, fun z hz' => b2 z ((rs k (by omega) (by omega) z).mp hz')⟩⟩
  · have e1 : set9 ow x C k = ow k := set9_ne c
    refine ⟨g1, ?_, fun d1 d2 d3 => ?_, fun g => ?_, ?_, fun q => ?_⟩
    · rcases f5 k with g | g
      · rw [g, n0]; exact g2
      · exact Or.inr ⟨x, g.2.2, by rw [n0]; exact hx.2, by have := hz k g.1; omega⟩
    · rw [e1] at d1 d2 d3 ⊢
      by_cases d : ow k = C
      · have kC : RS9 σ s ow C k := ⟨hk', d⟩
        rw [d]
        rcases g3 d1 d2 d3 with ⟨q1, q2⟩ | ⟨z, q1, q2, q3, q4⟩
        · rw [d] at q2
          refine Or.inr ⟨x, fl k kC q2, (rsC x).mpr (Or.inr rfl), hz k kC, fun z' hz' => ?_⟩
          rcases (rsC z').mp hz' with g | g
          · exact Or.inl (q2 z' g)
          · right; omega
        · rw [d] at q2 q4
          have hzx := hz z q2
          have kz := (h.2 z q2.1).1.2
          rcases f5 k with g | g
          · refine Or.inr ⟨z, by rw [g]; exact q1, (rsC z).mpr (Or.inl q2), q3, fun z' hz' => ?_⟩
            rcases (rsC z').mp hz' with g' | g'
            · exact q4 z' g'
            · right; omega
          · have := g.2.1 z q2; omega
      · have := f5 k
        have f5' : (gi σ' 195 k).toInt = (gi σ 195 k).toInt := by
          rcases f5 k with g | g
          · exact g
          · exact absurd g.1.2 d
        rw [f5']
        exact (g3 d1 d2 d3).cg (rs (ow k) d d2) (fun _ _ => rfl)
    · rw [f 198 _ (by decide)] at g
      obtain ⟨a, a1, a2, a3, a4, a5⟩ := g4 g
      refine ⟨a, by rw [f 197 _ (by decide)]; exact a1, a2, a3, a4, fun q => ?_⟩
      rw [e1] at q
      obtain ⟨b1, b2⟩ := a5 q
      exact ⟨by rw [set9_ne (fun z => by rw [z, ho] at b1; omega)]; exact b1, fun z hz' => b2 z ((rs k (by omega) (by omega) z).mp hz')⟩
    · rw [e1, n0]; exact g5
    · rw [e1] at q
      rcases f5 k with g | g
      · rw [g]; exact g6 q
      · have := g.1.2; omega
/-- the only one of a row is to come -/
theorem nd_take {σ : St} {s x C : Nat} {lo ow : Nat → Nat} (h : NDI σ s lo ow 7000) (hC : 10000 ≤ C) (hx : RS9 σ s ow C x) (hz : ∀ z, RS9 σ s ow C z → z = x) : NDI σ s lo (set9 ow x 8000) 7000 ∧ (gi σ 195 x).toInt = -1 ∧ ∀ z, ¬ RS9 σ s (set9 ow x 8000) C z := by
  have top := ndi_top h
  have hn : (gi σ 195 x).toInt = -1 := by
    have := (h.2 x hx.1).2.2.1 (by have := hx.2; omega) (by have := hx.2; omega) (by have := hx.2; omega)
    rw [hx.2] at this
    rcases this with g | ⟨z, q1, q2, q3, q4⟩
    · exact g.1
    · have := hz z q2
      have := (h.2 z q2.1).1.2
      omega
  have rs : ∀ D, ¬ D = C → ¬ D = 8000 → ∀ z, RS9 σ s (set9 ow x 8000) D z ↔ RS9 σ s ow D z := fun D d1 d2 z => by
    unfold RS9
    by_cases c : z = x
    · rw [c, set9_eq]
      exact ⟨fun q => absurd q.2.symm d2, fun q => absurd (q.2.symm.trans hx.2) d1⟩
    · rw [set9_ne c]
  refine ⟨⟨h.1, fun k hk => ?_⟩, hn, fun z q => ?_⟩
  · obtain ⟨g1, g2, g3, g4, g5, g6⟩ := h.2 k hk
    have kt := hk.2
    by_cases c : k = x
    · subst c
      have e1 : set9 ow k 8000 k = 8000 := set9_eq
      refine ⟨g1, g2, fun _ q => absurd e1 q, fun g => ?_, Or.inl (by rw [e1]; decide), fun _ => hn⟩
      obtain ⟨a, a1, a2, a3, a4, a5⟩ := g4 g
      obtain ⟨b1, b2⟩ := a5 (by have := hx.2; omega)
      exact ⟨a, a1, a2, a3, a4, fun _ => ⟨by rw [set9_ne (by omega)]; exact b1, fun z hz' => b2 z ((rs k (by omega) (by omega) z).mp hz')⟩⟩
    · have e1 : set9 ow x 8000 k = ow k := set9_ne c
      have kC : ¬ ow k = C := fun q => c (hz k ⟨hk, q⟩)
      refine ⟨g1, g2, fun d1 d2 d3 => ?_, fun g => ?_, by rw [e1]; exact g5, by rw [e1]; exact g6⟩
      · rw [e1] at d1 d2 d3 ⊢
        exact (g3 d1 d2 d3).cg (rs (ow k) kC d2) (fun _ _ => rfl)
      · obtain ⟨a, a1, a2, a3, a4, a5⟩ := g4 g
        refine ⟨a, a1, a2, a3, a4, fun q => ?_⟩
        rw [e1] at q
        obtain ⟨b1, b2⟩ := a5 q
        exact ⟨by rw [set9_ne (fun z => by rw [z, hx.2] at b1; omega)]; exact b1, fun z hz' => b2 z ((rs k (by omega) (by omega) z).mp hz')⟩
  · by_cases c : z = x
    · have q2 := q.2
      rw [c, set9_eq] at q2; omega
    · exact c (hz z ⟨q.1, by rw [← q.2, set9_ne c]⟩)
