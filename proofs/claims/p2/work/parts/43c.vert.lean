-- ===== rows of nodes that are joined; formulas that are open =====
/-- the row C of an open formula, its first and its last; n are in it -/
def CHN (σ : St) (s : Nat) (lo ow : Nat → Nat) (C : Nat) (first last : Int32) (n f hi : Nat) : Prop :=
  (n = 0 ∧ first.toInt = -1 ∧ ∀ z, ¬ RS9 σ s ow C z) ∨
  (1 ≤ n ∧ ∃ x y : Nat, first.toInt = x ∧ last.toInt = y ∧ RS9 σ s ow C x ∧ RS9 σ s ow C y ∧ y < hi ∧ (n = 1 → x = y) ∧ ∀ z, RS9 σ s ow C z → x ≤ z ∧ z ≤ y ∧ f ≤ lo z)
theorem chnf_of {σ σ' : St} {s C : Nat} {lo lo' ow ow' : Nat → Nat} {a b a' b' : Int32} {n f hi : Nat} (ea : a' = a) (eb : b' = b) (eo : ∀ z, RS9 σ' s ow' C z ↔ RS9 σ s ow C z) (el : ∀ y, y < hi → lo' y = lo y) (h : CHN σ s lo ow C a b n f hi) : CHN σ' s lo' ow' C a' b' n f hi := by
  subst ea eb
  rcases h with ⟨h, h1, h2⟩ | ⟨h, x, y, h1, h2, h3, h4, h5, h6, h7⟩
  · exact Or.inl ⟨h, h1, fun z hz => h2 z ((eo z).mp hz)⟩
  · exact Or.inr ⟨h, x, y, h1, h2, (eo x).mpr h3, (eo y).mpr h4, h5, h6, fun z hz => by
      have := h7 z ((eo z).mp hz)
      rw [el z (by omega)]; exact this⟩
theorem chn_mono {σ : St} {s C : Nat} {lo ow : Nat → Nat} {a b : Int32} {n f hi hi' : Nat} (h : CHN σ s lo ow C a b n f hi) (hh : hi ≤ hi') : CHN σ s lo ow C a b n f hi' := by
  rcases h with h | ⟨h, x, y, h1, h2, h3, h4, h5, h6, h7⟩
  · exact Or.inl h
  · exact Or.inr ⟨h, x, y, h1, h2, h3, h4, by omega, h6, h7⟩
/-- formulas that are open, the latest first; what they speak of lies below hi -/
def FRC (σ : St) (s : Nat) (lo ow : Nat → Nat) : List FFr → Nat → Prop
  | [], _ => True
  | (j, n, a, b) :: fr, hi => ∃ f0 f1 f2 : Nat, 250 * s ≤ f0 ∧ f0 ≤ f1 ∧ f1 ≤ f2 ∧ f2 ≤ hi ∧ (gi σ 172 fr.length).toInt = j ∧ (gi σ 166 fr.length).toInt = n ∧
      (j = 0 ∨ ∃ l : Nat, (gi σ 171 fr.length).toInt = l ∧ 250 * s ≤ l ∧ l < f1) ∧ CHN σ s lo ow (10001 + 2 * fr.length) (gi σ 170 fr.length) (gi σ 169 fr.length) a f1 f2 ∧ CHN σ s lo ow (10000 + 2 * fr.length) (gi σ 168 fr.length) (gi σ 167 fr.length) b f2 hi ∧ FRC σ s lo ow fr f0
theorem frc_mono {σ : St} {s : Nat} {lo ow : Nat → Nat} {fs : List FFr} {hi hi' : Nat} (h : FRC σ s lo ow fs hi) (hh : hi ≤ hi') : FRC σ s lo ow fs hi' := by
  cases fs with
  | nil => trivial
  | cons f fr =>
    obtain ⟨j, n, a, b⟩ := f
    obtain ⟨f0, f1, f2, h1, h2, h3, h4, h5, h6, h7, h8, h9, h10⟩ := h
    exact ⟨f0, f1, f2, h1, h2, h3, by omega, h5, h6, h7, h8, chn_mono h9 hh, h10⟩
theorem frc_of {σ σ' : St} {s : Nat} {lo lo' ow ow' : Nat → Nat} : ∀ {fs : List FFr} {hi : Nat}, (∀ q, 166 ≤ q → q ≤ 172 → ∀ k, k < fs.length → gi σ' q k = gi σ q k) → (∀ y, y < hi → lo' y = lo y) → (∀ C, 10000 ≤ C → C < 10000 + 2 * fs.length → ∀ z, RS9 σ' s ow' C z ↔ RS9 σ s ow C z) → FRC σ s lo ow fs hi → FRC σ' s lo' ow' fs hi
  | [], _, _, _, _, _ => trivial
  | (j, n, a, b) :: fr, hi, eq, el, eo, h => by
    obtain ⟨f0, f1, f2, h1, h2, h3, h4, h5, h6, h7, h8, h9, h10⟩ := h
    have l : fr.length < ((j, n, a, b) :: fr).length := by simp
    have l2 : ((j, n, a, b) :: fr).length = fr.length + 1 := by simp
    refine ⟨f0, f1, f2, h1, h2, h3, h4, by rw [eq 172 (by decide) (by decide) _ l]; exact h5, by rw [eq 166 (by decide) (by decide) _ l]; exact h6, by rw [eq 171 (by decide) (by decide) _ l]; exact h7, ?_, ?_, ?_⟩
    · exact chnf_of (eq 170 (by decide) (by decide) _ l) (eq 169 (by decide) (by decide) _ l) (eo _ (by omega) (by omega)) (fun y hy => el y (by omega)) h8
    · exact chnf_of (eq 168 (by decide) (by decide) _ l) (eq 167 (by decide) (by decide) _ l) (eo _ (by omega) (by omega)) el h9
    · exact frc_of (fun q q1 q2 k hk => eq q q1 q2 k (by omega)) (fun y hy => el y (by omega)) (fun C c1 c2 => eo C c1 (by omega)) h10
/-- a node that is to come to the latest open formula -/
def PND (σ : St) (s : Nat) (lo ow : Nat → Nat) (fs : List FFr) (x F : Nat) : Prop := NDI σ s lo ow 7000 ∧ FRC σ s lo ow fs F ∧ F ≤ lo x ∧ inN σ s x ∧ ow x = 8000
theorem own9_ch {σ σ' : St} {s K C : Nat} {ow : Nat → Nat} (n1 : nN σ' s = nN σ s + 1) (hK : K = 250 * s + nN σ s) (hs : K < 7000) {D : Nat} (hD : 10000 ≤ D) (hn : ¬ D = C) : ∀ y, RS9 σ' s (own9 ow K C) D y ↔ RS9 σ s ow D y := fun y => by
  constructor
  · intro q
    have q2 := q.2
    unfold own9 at q2
    by_cases c : y = K
    · rw [if_pos c] at q2; omega
    · rw [if_neg c] at q2
      split at q2
      · omega
      · exact ⟨⟨q.1.1, by have := q.1.2; omega⟩, q2⟩
  · intro q
    have := q.1.2
    refine ⟨⟨q.1.1, by omega⟩, ?_⟩
    unfold own9
    rw [if_neg (by omega), if_neg (fun g => hn (q.2.symm.trans g))]
    exact q.2
/-- a node of its own -/
theorem pnd_0 {σ σ' : St} {s : Nat} {lo ow : Nat → Nat} {fs : List FFr} {kd a b : Int32} {K : Nat} (h : NDI σ s lo ow 7000) (f : FRC σ s lo ow fs K) (hN : nN σ s ≤ 249) (hl : fs.length ≤ 100) (w : NEWN σ σ' s kd a b) (eq : ∀ q, 166 ≤ q → q ≤ 172 → ∀ k, k < fs.length → gi σ' q k = gi σ q k) (hK : K = 250 * s + nN σ s) (hk : ¬ (kd.toInt = 3 ∨ kd.toInt = 4)) (h2 : ∀ z, ¬ RS9 σ s ow 20000 z) : PND σ' s (set9 lo K K) (own9 ow K 20000) fs K K := by
  have n1 := newn_nN w h.1.1
  have top := ndi_top h
  refine ⟨nd_new h w hK hN (by decide) ⟨by omega, Nat.le_refl _⟩ (fun z hz => absurd hz (h2 z)) (fun g => absurd g hk), ?_, by rw [set9_eq]; exact Nat.le_refl _, ⟨by omega, by omega⟩, by unfold own9; rw [if_pos rfl]⟩
  exact frc_of eq (fun y hy => set9_ne (by omega)) (fun C c1 c2 => own9_ch n1 hK (by omega) c1 (by omega)) f
/-- one above a node that is to come -/
theorem pnd_up {σ σ' : St} {s : Nat} {lo ow : Nat → Nat} {fs : List FFr} {kd a b : Int32} {x F K : Nat} (h : PND σ s lo ow fs x F) (hN : nN σ s ≤ 249) (hl : fs.length ≤ 100) (w : NEWN σ σ' s kd a b) (eq : ∀ q, 166 ≤ q → q ≤ 172 → ∀ k, k < fs.length → gi σ' q k = gi σ q k) (hK : K = 250 * s + nN σ s) (hk : ¬ (kd.toInt = 3 ∨ kd.toInt = 4)) (h2 : ∀ z, ¬ RS9 σ s ow 20000 z) : PND σ' s (set9 lo K (lo x)) (own9 ow K 20000) fs K F := by
  obtain ⟨h1, hf, h3, h4, h5⟩ := h
  have n1 := newn_nN w h1.1.1
  have top := ndi_top h1
  have g := (h1.2 x h4).1
  have hx := h4.2
  refine ⟨nd_new h1 w hK hN (by decide) ⟨g.1, by omega⟩ (fun z hz => absurd hz (h2 z)) (fun g => absurd g hk), ?_, by rw [set9_eq]; exact h3, ⟨by omega, by omega⟩, by unfold own9; rw [if_pos rfl]⟩
  exact frc_of eq (fun y hy => set9_ne (by omega)) (fun C c1 c2 => own9_ch n1 hK (by omega) c1 (by omega)) hf
/-- a node comes to a row -/
theorem chn_put {σ σ' : St} {s C : Nat} {lo ow : Nat → Nat} {F L F' L' : Int32} {n f hi hi' x : Nat} (h : CHN σ s lo ow C F L n f hi) (hn : NDI σ s lo ow 7000) (hx : inN σ s x) (hlo : hi ≤ lo x) (hf : f ≤ hi) (ho : ow x = 8000) (hC : 10000 ≤ C) (h2 : x < hi') (hL : L'.toInt = x)
    (e : (F.toInt = -1 ∧ F'.toInt = x ∧ σ' = σ) ∨ (¬ F.toInt = -1 ∧ F' = F ∧ ∃ v : Int32, σ' = si σ 195 L.toNatClampNeg v ∧ v.toInt = x)) : CHN σ' s lo (set9 ow x C) C F' L' (n + 1) f hi' ∧ NDI σ' s lo (set9 ow x C) 7000 := by
  have lx := (hn.2 x hx).1.2
  have n0 : nN σ' s = nN σ s := by
    rcases e with e | ⟨_, _, v, e, _⟩
    · rw [e.2.2]
    · show (gi σ' 194 s).toInt.toNat = _
      rw [e, gi_si, if_neg (fun q => by have := q.1; omega)]
  have rsC : ∀ z, RS9 σ' s (set9 ow x C) C z ↔ RS9 σ s ow C z ∨ z = x := fun z => by
    unfold RS9 inN
    rw [n0]
    by_cases c : z = x
    · rw [c, set9_eq]; exact ⟨fun _ => Or.inr rfl, fun _ => ⟨hx, rfl⟩⟩
    · rw [set9_ne c]; exact ⟨Or.inl, fun q => q.resolve_right c⟩
  rcases h with ⟨h, h1, h3⟩ | ⟨h, a, b, g1, g2, g3, g4, g5, g6, g7⟩
  · rcases e with ⟨e1, e2, e3⟩ | e
    · refine ⟨Or.inr ⟨by omega, x, x, e2, hL, (rsC x).mpr (Or.inr rfl), (rsC x).mpr (Or.inr rfl), h2, fun _ => rfl, fun z hz => ?_⟩, nd_put hn hx ho hC (fun z hz => absurd hz (h3 z)) (Or.inl ⟨e3, h3⟩)⟩
      rcases (rsC z).mp hz with q | q
      · exact absurd q (h3 z)
      · rw [q]; exact ⟨Nat.le_refl _, Nat.le_refl _, by omega⟩
    · exact absurd h1 e.1
  · rcases e with e | ⟨e1, e2, v, e3, e4⟩
    · omega
    · have eb : L.toNatClampNeg = b := by show L.toInt.toNat = b; omega
      rw [eb] at e3
      refine ⟨Or.inr ⟨by omega, a, x, by rw [e2]; exact g1, hL, (rsC a).mpr (Or.inl g3), (rsC x).mpr (Or.inr rfl), h2, fun q => by omega, fun z hz => ?_⟩, nd_put hn hx ho hC (fun z hz => by have := g7 z hz; omega) (Or.inr ⟨b, v, e3, e4, g4, fun z hz => (g7 z hz).2.1⟩)⟩
      have ga := g7 a g3
      rcases (rsC z).mp hz with q | q
      · have := g7 z q; exact ⟨this.1, by omega, this.2.2⟩
      · rw [q]; exact ⟨by omega, Nat.le_refl _, by omega⟩
theorem rs_put {σ σ' : St} {s x C D : Nat} {ow : Nat → Nat} (n0 : nN σ' s = nN σ s) (ho : ow x = 8000) (hD : ¬ D = C) (h8 : ¬ D = 8000) : ∀ z, RS9 σ' s (set9 ow x C) D z ↔ RS9 σ s ow D z := fun z => by
  unfold RS9 inN
  rw [n0]
  by_cases c : z = x
  · rw [c, set9_eq, ho]
    exact ⟨fun q => absurd q.2.symm hD, fun q => absurd q.2.symm h8⟩
  · rw [set9_ne c]
/-- rows in the middle of being joined: head, last, and where it goes on -/
def JOI (σ : St) (s : Nat) (lo ow : Nat → Nat) (C f : Nat) (head last k : Int) : Prop :=
  NDI σ s lo ow C ∧ (∀ z, RS9 σ s ow C z → f ≤ lo z) ∧
  (k = -1 ∨ ∃ x : Nat, k = x ∧ RS9 σ s ow C x) ∧
  (∀ y, RS9 σ s ow C y → ¬ k = -1 → k ≤ y → SUC (gi σ 195 y).toInt lo (RS9 σ s ow C) y) ∧
  (∀ y, RS9 σ s ow C y → k = -1 ∨ (y : Int) < k → SUC (gi σ 195 y).toInt lo (fun z => RS9 σ s ow C z ∧ (k = -1 ∨ (z : Int) < k)) y) ∧
  ((head = -1 ∧ ¬ k = -1 ∧ ∀ z, RS9 σ s ow C z → k ≤ z) ∨
   ∃ a b : Nat, head = a ∧ last = b ∧ RS9 σ s ow C a ∧ RS9 σ s ow C b ∧ (k = -1 ∨ ((b : Int) < k ∧ ∃ x : Nat, k = x ∧ b < lo x)) ∧ (∀ z, RS9 σ s ow C z → a ≤ z) ∧ ∀ z, RS9 σ s ow C z → k = -1 ∨ (z : Int) < k → z ≤ b)
theorem ndi_open {σ : St} {s C : Nat} {lo ow : Nat → Nat} (h : NDI σ s lo ow 7000) : NDI σ s lo ow C :=
  ⟨h.1, fun k hk => ⟨(h.2 k hk).1, (h.2 k hk).2.1, fun d1 d2 _ => (h.2 k hk).2.2.1 d1 d2 d1, (h.2 k hk).2.2.2⟩⟩
theorem ndi_close {σ : St} {s C : Nat} {lo ow : Nat → Nat} (h : NDI σ s lo ow C) (g : ∀ y, RS9 σ s ow C y → SUC (gi σ 195 y).toInt lo (RS9 σ s ow C) y) : NDI σ s lo ow 7000 :=
  ⟨h.1, fun k hk => ⟨(h.2 k hk).1, (h.2 k hk).2.1, fun d1 d2 _ => by
    by_cases c : ow k = C
    · rw [c]; exact g k ⟨hk, c⟩
    · exact (h.2 k hk).2.2.1 d1 d2 c, (h.2 k hk).2.2.2⟩⟩
theorem si_nN (σ : St) (s y : Nat) (v : Int32) : nN (si σ 195 y v) s = nN σ s := by
  show (gi (si σ 195 y v) 194 s).toInt.toNat = _
  rw [gi_si, if_neg (fun q => by have := q.1; omega)]
theorem si_rs (σ : St) (s y : Nat) (v : Int32) (ow : Nat → Nat) (C z : Nat) : RS9 (si σ 195 y v) s ow C z ↔ RS9 σ s ow C z := by
  unfold RS9 inN; rw [si_nN]
theorem ndi_wr {σ σ' : St} {s C y : Nat} {lo ow : Nat → Nat} {v : Int32} (h : NDI σ s lo ow C) (e : σ' = si σ 195 y v) (hC : 10000 ≤ C) (hy : RS9 σ s ow C y) (hv : v.toInt = -1 ∨ ∃ z : Nat, v.toInt = z ∧ z < 250 * s + nN σ s ∧ y < z) : NDI σ' s lo ow C := by
  subst e
  have f : ∀ q k, ¬ q = 195 → gi (si σ 195 y v) q k = gi σ q k := fun q k c => by rw [gi_si, if_neg (fun g => c g.1)]
  refine ⟨by rw [f 194 _ (by decide)]; exact h.1, fun k hk => ?_⟩
  have hk' : inN σ s k := ⟨hk.1, by have := hk.2; rw [si_nN] at this; exact this⟩
  obtain ⟨g1, g2, g3, g4, g5, g6⟩ := h.2 k hk'
  unfold NDK
  rw [si_nN, f 198 _ (by decide), f 197 _ (by decide), gi_si]
  have rs := si_rs σ s y v ow
  by_cases c : k = y
  · rw [if_pos ⟨rfl, c⟩]
    have oC : ow k = C := by rw [c]; exact hy.2
    refine ⟨g1, by rw [c]; exact hv, fun _ _ d3 => absurd oC d3, fun g => ?_, g5, fun q => by omega⟩
    obtain ⟨a, a1, a2, a3, a4, a5⟩ := g4 g
    exact ⟨a, a1, a2, a3, a4, fun q => ⟨(a5 q).1, fun z hz => (a5 q).2 z ((rs _ z).mp hz)⟩⟩
  · rw [if_neg (fun q => c q.2)]
    refine ⟨g1, g2, fun d1 d2 d3 => (g3 d1 d2 d3).cg (rs _) (fun _ _ => rfl), fun g => ?_, g5, g6⟩
    obtain ⟨a, a1, a2, a3, a4, a5⟩ := g4 g
    exact ⟨a, a1, a2, a3, a4, fun q => ⟨(a5 q).1, fun z hz => (a5 q).2 z ((rs _ z).mp hz)⟩⟩
theorem joi_start {σ : St} {s C : Nat} {lo ow : Nat → Nat} {F L : Int32} {n f hi : Nat} (h : NDI σ s lo ow 7000) (hC : 10000 ≤ C) (c : CHN σ s lo ow C F L n f hi) (hF : ¬ F.toInt = -1) : JOI σ s lo ow C f (-1) (-1) F.toInt := by
  rcases c with c | ⟨c, x, y, h1, h2, h3, h4, h5, h6, h7⟩
  · exact absurd c.2.1 hF
  · refine ⟨ndi_open h, fun z hz => (h7 z hz).2.2, Or.inr ⟨x, h1, h3⟩, fun y hy _ _ => ?_, fun y hy hk => ?_, Or.inl ⟨rfl, hF, fun z hz => by have := (h7 z hz).1; omega⟩⟩
    · have := (h.2 y hy.1).2.2.1 (by have := hy.2; omega) (by have := hy.2; omega) (by have := hy.2; omega)
      rw [hy.2] at this; exact this
    · have := (h7 y hy).1
      rcases hk with hk | hk
      · exact absurd hk hF
      · omega
/-- a node that is no such row -/
theorem joi_one {σ s1 s2 : St} {s C f x : Nat} {lo ow : Nat → Nat} {H L K M V : Int32} (h : JOI σ s lo ow C f H.toInt L.toInt K.toInt) (hC : 10000 ≤ C) (hx : K.toInt = x) (e1 : s1 = si σ 195 x M) (hM : M.toInt = -1) (hV : V = gi σ 195 x)
    (e2 : (H.toInt = -1 ∧ s2 = s1) ∨ (¬ H.toInt = -1 ∧ ∃ W : Int32, s2 = si s1 195 L.toNatClampNeg W ∧ W.toInt = x)) :
    JOI s2 s lo ow C f (if H.toInt = -1 then (x : Int) else H.toInt) x V.toInt := by
  obtain ⟨j1, j2, j3, j4, j5, j6⟩ := h
  have xC : RS9 σ s ow C x := by
    rcases j3 with j3 | ⟨x', q1, q2⟩
    · omega
    · have : x' = x := by omega
      rw [← this]; exact q2
  have lx := (j1.2 x xC.1).1.2
  -- the last ahead of it, if there is one
  have jl : ¬ H.toInt = -1 → ∃ b : Nat, L.toNatClampNeg = b ∧ RS9 σ s ow C b ∧ b < lo x ∧ (∀ z, RS9 σ s ow C z → (z : Int) < x → z ≤ b) ∧ ∃ a : Nat, H.toInt = a ∧ RS9 σ s ow C a ∧ ∀ z, RS9 σ s ow C z → a ≤ z := fun q => by
    rcases j6 with j6 | ⟨a, b, q1, q2, q3, q4, q5, q6, q7⟩
    · exact absurd j6.1 q
    · refine ⟨b, by show L.toInt.toNat = b; omega, q4, ?_, fun z hz hzx => q7 z hz (Or.inr (by omega)), a, q1, q3, q6⟩
      rcases q5 with q5 | ⟨q5, x', q8, q9⟩
      · omega
      · have : x' = x := by omega
        rw [← this]; exact q9
  have rs2 : ∀ D z, RS9 s2 s ow D z ↔ RS9 σ s ow D z := fun D z => by
    rcases e2 with e2 | ⟨_, W, e2, _⟩
    · rw [e2.2, e1]; exact si_rs ..
    · rw [e2, e1]; exact (si_rs ..).trans (si_rs ..)
  have nx : ∀ y, ¬ y = x → (¬ H.toInt = -1 → ¬ y = L.toNatClampNeg) → gi s2 195 y = gi σ 195 y := fun y c1 c2 => by
    rcases e2 with e2 | ⟨q, W, e2, _⟩
    · rw [e2.2, e1, gi_si, if_neg (fun g => c1 g.2)]
    · rw [e2, gi_si, if_neg (fun g => c2 q g.2), e1, gi_si, if_neg (fun g => c1 g.2)]
  have nx_x : (gi s2 195 x).toInt = -1 := by
    rcases e2 with e2 | ⟨q, W, e2, _⟩
    · rw [e2.2, e1, gi_si, if_pos ⟨rfl, rfl⟩]; exact hM
    · obtain ⟨b, b1, b2, b3, b4⟩ := jl q
      rw [e2, gi_si, if_neg (fun g => by have := g.2; omega), e1, gi_si, if_pos ⟨rfl, rfl⟩]; exact hM
  have nx_l : ¬ H.toInt = -1 → (gi s2 195 L.toNatClampNeg).toInt = x := fun q => by
    rcases e2 with e2 | ⟨_, W, e2, e3⟩
    · exact absurd e2.1 q
    · rw [e2, gi_si, if_pos ⟨rfl, rfl⟩]; exact e3
  have n1 : NDI s1 s lo ow C := ndi_wr j1 e1 hC xC (Or.inl hM)
  have n2 : NDI s2 s lo ow C := by
    rcases e2 with e2 | ⟨q, W, e2, e3⟩
    · rw [e2.2]; exact n1
    · obtain ⟨b, b1, b2, b3, b4⟩ := jl q
      rw [b1] at e2
      exact ndi_wr n1 e2 hC (by rw [e1]; exact (si_rs ..).mpr b2) (Or.inr ⟨x, e3, by rw [e1, si_nN]; exact xC.1.2, by omega⟩)
  have sx := j4 x xC (by omega) (by omega)
  rw [← hV] at sx
  have nl : ∀ y, ¬ H.toInt = -1 → y = L.toNatClampNeg → y < x := fun y q c => by
    obtain ⟨b, b1, b2, b3, b4⟩ := jl q
    omega
  refine ⟨n2, fun z hz => j2 z ((rs2 C z).mp hz), ?_, fun y hy hk hky => ?_, fun y hy hk => ?_, ?_⟩
  · rcases sx with sx | ⟨z, z1, z2, z3, z4⟩
    · exact Or.inl sx.1
    · exact Or.inr ⟨z, z1, (rs2 C z).mpr z2⟩
  · have hy' := (rs2 C y).mp hy
    rcases sx with sx | ⟨z, z1, z2, z3, z4⟩
    · exact absurd sx.1 hk
    · have lz := (j1.2 z z2.1).1.2
      rw [nx y (by omega) (fun q c => by have := nl y q c; omega)]
      exact (j4 y hy' (by omega) (by omega)).cg (rs2 C) (fun _ _ => rfl)
  · have hy' := (rs2 C y).mp hy
    have le_x : ∀ z, RS9 σ s ow C z → V.toInt = -1 ∨ (z : Int) < V.toInt → z ≤ x := fun z hz q => by
      rcases sx with sx | ⟨w, w1, w2, w3, w4⟩
      · exact sx.2 z hz
      · rcases w4 z hz with g | g
        · exact g
        · rcases q with q | q <;> omega
    by_cases c : y = x
    · subst c
      exact Or.inl ⟨nx_x, fun z hz => le_x z ((rs2 C z).mp hz.1) hz.2⟩
    · have yx : y < x := by have := le_x y hy' hk; omega
      have q : ¬ H.toInt = -1 := fun q => by
        rcases j6 with j6 | ⟨a, b, q1, _⟩
        · have := j6.2.2 y hy'; omega
        · omega
      obtain ⟨b, b1, b2, b3, b4, b5⟩ := jl q
      have xP : (RS9 s2 s ow C x ∧ (V.toInt = -1 ∨ (x : Int) < V.toInt)) := by
        refine ⟨(rs2 C x).mpr xC, ?_⟩
        rcases sx with sx | ⟨w, w1, w2, w3, w4⟩
        · exact Or.inl sx.1
        · have := (j1.2 w w2.1).1.2
          right; omega
      by_cases d : y = b
      · subst d
        refine Or.inr ⟨x, by have := nx_l q; rw [b1] at this; exact this, xP, by omega, fun z' hz' => ?_⟩
        have g1 := (rs2 C z').mp hz'.1
        have g2 := le_x z' g1 hz'.2
        by_cases g3 : z' = x
        · right; omega
        · left; exact b4 z' g1 (by omega)
      · rw [nx y c (fun _ => by omega)]
        have yb := b4 y hy' (by omega)
        rcases j5 y hy' (Or.inr (by omega)) with ⟨p1, p2⟩ | ⟨z, p1, p2, p3, p4⟩
        · have bl := (j1.2 b b2.1).1.2
          have lx2 : b < x := by omega
          have := p2 b ⟨b2, Or.inr (by omega)⟩
          omega
        · refine Or.inr ⟨z, p1, ⟨(rs2 C z).mpr p2.1, ?_⟩, p3, fun z' hz' => ?_⟩
          · rcases p2.2 with g | g
            · omega
            · rcases xP.2 with g2 | g2
              · exact Or.inl g2
              · right; omega
          · have g1 := (rs2 C z').mp hz'.1
            have g2 := le_x z' g1 hz'.2
            by_cases g3 : z' = x
            · right
              rcases p2.2 with g | g <;> omega
            · exact p4 z' ⟨g1, Or.inr (by omega)⟩
  · right
    have kx : V.toInt = -1 ∨ ((x : Int) < V.toInt ∧ ∃ x' : Nat, V.toInt = x' ∧ x < lo x') := by
      rcases sx with sx | ⟨w, w1, w2, w3, w4⟩
      · exact Or.inl sx.1
      · have := (j1.2 w w2.1).1.2
        exact Or.inr ⟨by omega, w, w1, w3⟩
    have le_x : ∀ z, RS9 s2 s ow C z → V.toInt = -1 ∨ (z : Int) < V.toInt → z ≤ x := fun z hz q => by
      have hz' := (rs2 C z).mp hz
      rcases sx with sx | ⟨w, w1, w2, w3, w4⟩
      · exact sx.2 z hz'
      · rcases w4 z hz' with g | g
        · exact g
        · rcases q with q | q <;> omega
    by_cases q : H.toInt = -1
    · refine ⟨x, x, by rw [if_pos q], rfl, (rs2 C x).mpr xC, (rs2 C x).mpr xC, kx, fun z hz => ?_, le_x⟩
      rcases j6 with j6 | ⟨a, b, q1, _⟩
      · have := j6.2.2 z ((rs2 C z).mp hz); omega
      · omega
    · obtain ⟨b, b1, b2, b3, b4, a, a1, a2, a3⟩ := jl q
      exact ⟨a, x, by rw [if_neg q]; exact a1, rfl, (rs2 C a).mpr a2, (rs2 C x).mpr xC, kx, fun z hz => a3 z ((rs2 C z).mp hz), le_x⟩
/-- what was a row's is now of the row that it stands in -/
def mrg9 (ow : Nat → Nat) (x C : Nat) : Nat → Nat := fun y => if y = x then 7000 else if ow y = x then C else ow y
/-- a node that is such a row: its nodes come in its place -/
theorem joi_row {σ s1 s2 : St} {s C f x a e : Nat} {lo ow : Nat → Nat} {H L K V A : Int32} (h : JOI σ s lo ow C f H.toInt L.toInt K.toInt) (hC : 10000 ≤ C) (hx : K.toInt = x) (e1 : s1 = si σ 195 x V) (hV : V = gi σ 195 x) (hk : (gi σ 198 x).toInt = 3 ∨ (gi σ 198 x).toInt = 4) (hA : A = gi σ 197 x) (ha : A.toInt = a)
    (e2 : (H.toInt = -1 ∧ s2 = s1) ∨ (¬ H.toInt = -1 ∧ ∃ W : Int32, s2 = si s1 195 L.toNatClampNeg W ∧ W.toInt = a)) (he : RS9 σ s ow x e) (hn : (gi s2 195 e).toInt = -1) :
    JOI s2 s lo (mrg9 ow x C) C f (if H.toInt = -1 then (a : Int) else H.toInt) e V.toInt := by
  obtain ⟨j1, j2, j3, j4, j5, j6⟩ := h
  have top := ndi_top j1
  have xC : RS9 σ s ow C x := by
    rcases j3 with j3 | ⟨x', q1, q2⟩
    · omega
    · have : x' = x := by omega
      rw [← this]; exact q2
  have xt := xC.1.2
  have xo := xC.2
  have lx := (j1.2 x xC.1).1.2
  -- its row
  obtain ⟨a', a1, a2, a3, a4, a5⟩ := (j1.2 x xC.1).2.2.2.1 hk
  have ea : a' = a := by rw [← hA, ha] at a1; omega
  subst ea
  obtain ⟨a6, a7⟩ := a5 (by omega)
  have aR : RS9 σ s ow x a' := ⟨⟨a2, by omega⟩, a6⟩
  have la := (j1.2 a' aR.1).1.2
  have R : ∀ z, RS9 σ s ow x z → z < x ∧ lo x ≤ lo z ∧ a' ≤ z := fun z hz => by
    have g5 := (j1.2 z hz.1).2.2.2.2.1
    rw [hz.2] at g5
    rcases g5 with g | g
    · omega
    · exact ⟨g.1, g.2.2, a7 z hz⟩
  have jl : ¬ H.toInt = -1 → ∃ b : Nat, L.toNatClampNeg = b ∧ RS9 σ s ow C b ∧ b < lo x ∧ (∀ z, RS9 σ s ow C z → (z : Int) < x → z ≤ b) ∧ ∃ a : Nat, H.toInt = a ∧ RS9 σ s ow C a ∧ ∀ z, RS9 σ s ow C z → a ≤ z := fun q => by
    rcases j6 with j6 | ⟨a, b, q1, q2, q3, q4, q5, q6, q7⟩
    · exact absurd j6.1 q
    · refine ⟨b, by show L.toInt.toNat = b; omega, q4, ?_, fun z hz hzx => q7 z hz (Or.inr (by omega)), a, q1, q3, q6⟩
      rcases q5 with q5 | ⟨q5, x', q8, q9⟩
      · omega
      · have : x' = x := by omega
        rw [← this]; exact q9
  have same1 : ∀ q k, gi s1 q k = gi σ q k := fun q k => by
    rw [e1, gi_si]
    split
    · rename_i g; rw [g.1, g.2]; exact hV
    · rfl
  have f2 : ∀ q k, ¬ q = 195 → gi s2 q k = gi σ q k := fun q k c => by
    rcases e2 with e2 | ⟨_, W, e2, _⟩
    · rw [e2.2]; exact same1 q k
    · rw [e2, gi_si, if_neg (fun g => c g.1)]; exact same1 q k
  have nx : ∀ y, (¬ H.toInt = -1 → ¬ y = L.toNatClampNeg) → gi s2 195 y = gi σ 195 y := fun y c2 => by
    rcases e2 with e2 | ⟨q, W, e2, _⟩
    · rw [e2.2]; exact same1 195 y
    · rw [e2, gi_si, if_neg (fun g => c2 q g.2)]; exact same1 195 y
  have nx_l : ¬ H.toInt = -1 → (gi s2 195 L.toNatClampNeg).toInt = a' := fun q => by
    rcases e2 with e2 | ⟨_, W, e2, e3⟩
    · exact absurd e2.1 q
    · rw [e2, gi_si, if_pos ⟨rfl, rfl⟩]; exact e3
  have nl : ∀ y, ¬ H.toInt = -1 → y = L.toNatClampNeg → y < lo x ∧ RS9 σ s ow C y := fun y q c => by
    obtain ⟨b, b1, b2, b3, b4⟩ := jl q
    rw [c, b1]; exact ⟨b3, b2⟩
  have n0 : nN s2 s = nN σ s := by show (gi s2 194 s).toInt.toNat = _; rw [f2 194 _ (by decide)]
  have oo : ∀ y, ¬ y = x → ¬ ow y = x → mrg9 ow x C y = ow y := fun y c d => by unfold mrg9; rw [if_neg c, if_neg d]
  have ox : mrg9 ow x C x = 7000 := by unfold mrg9; rw [if_pos rfl]
  have oR : ∀ y, ¬ y = x → ow y = x → mrg9 ow x C y = C := fun y c d => by unfold mrg9; rw [if_neg c, if_pos d]
  have rsC : ∀ z, RS9 s2 s (mrg9 ow x C) C z ↔ (RS9 σ s ow C z ∧ ¬ z = x) ∨ RS9 σ s ow x z := fun z => by
    unfold RS9 inN
    rw [n0]
    by_cases c : z = x
    · rw [c, ox]
      exact ⟨fun q => by omega, fun q => by rcases q with q | q <;> omega⟩
    · by_cases d : ow z = x
      · rw [oR z c d]
        exact ⟨fun q => Or.inr ⟨q.1, d⟩, fun q => ⟨by rcases q with q | q; exact q.1.1; exact q.1, rfl⟩⟩
      · rw [oo z c d]
        exact ⟨fun q => Or.inl ⟨q, c⟩, fun q => by rcases q with q | q; exact q.1; exact absurd q.2 d⟩
  have rs : ∀ D, ¬ D = C → ¬ D = x → ¬ D = 7000 → ∀ z, RS9 s2 s (mrg9 ow x C) D z ↔ RS9 σ s ow D z := fun D d1 d2 d3 z => by
    unfold RS9 inN
    rw [n0]
    by_cases c : z = x
    · rw [c, ox]
      exact ⟨fun q => absurd q.2.symm d3, fun q => absurd (q.2.symm.trans xo) d1⟩
    · by_cases d : ow z = x
      · rw [oR z c d]
        exact ⟨fun q => absurd q.2.symm d1, fun q => absurd (q.2.symm.trans d) d2⟩
      · rw [oo z c d]
  have n2 : NDI s2 s lo (mrg9 ow x C) C := by
    refine ⟨by rw [f2 194 _ (by decide)]; exact j1.1, fun k hk' => ?_⟩
    have hk2 : inN σ s k := ⟨hk'.1, by rw [← n0]; exact hk'.2⟩
    obtain ⟨g1, g2, g3, g4, g5, g6⟩ := j1.2 k hk2
    have kt := hk2.2
    refine ⟨g1, ?_, fun d1 d2 d3 => ?_, fun g => ?_, ?_, fun q => ?_⟩
    · rw [n0]
      by_cases c : ¬ H.toInt = -1 ∧ k = L.toNatClampNeg
      · have := nl k c.1 c.2
        refine Or.inr ⟨a', by rw [c.2]; exact nx_l c.1, aR.1.2, by omega⟩
      · rw [nx k (fun q1 q2 => c ⟨q1, q2⟩)]; exact g2
    · have kx : ¬ k = x := fun q => d1 (by rw [q]; exact ox)
      have ko : ¬ ow k = x := fun q => d3 (oR k kx q)
      rw [oo k kx ko] at d1 d2 d3 ⊢
      rw [nx k (fun q1 q2 => d3 (nl k q1 q2).2.2)]
      exact (g3 d1 d2 d3).cg (rs (ow k) d3 ko d1) (fun _ _ => rfl)
    · rw [f2 198 _ (by decide)] at g
      obtain ⟨r, r1, r2, r3, r4, r5⟩ := g4 g
      refine ⟨r, by rw [f2 197 _ (by decide)]; exact r1, r2, r3, r4, fun q => ?_⟩
      have kx : ¬ k = x := fun c => q (by rw [c]; exact ox)
      have k7 : ¬ ow k = 7000 := fun c => q (by rw [oo k kx (by omega)]; exact c)
      obtain ⟨b1, b2⟩ := r5 k7
      have rx : ¬ r = x := fun c => by rw [c] at b1; omega
      exact ⟨by rw [oo r rx (by omega)]; exact b1, fun z hz => b2 z ((rs k (by omega) kx (by omega) z).mp hz)⟩
    · by_cases kx : k = x
      · rw [kx, ox]; exact Or.inl (by decide)
      · by_cases ko : ow k = x
        · rw [oR k kx ko]; exact Or.inl (by omega)
        · rw [oo k kx ko, n0]; exact g5
    · have kx : ¬ k = x := fun c => by rw [c, ox] at q; omega
      have ko : ¬ ow k = x := fun c => by rw [oR k kx c] at q; omega
      rw [oo k kx ko] at q
      rw [nx k (fun q1 q2 => by have := (nl k q1 q2).2.2; omega)]
      exact g6 q
  have sx := j4 x xC (by omega) (by omega)
  rw [← hV] at sx
  -- the row's own nodes, one behind another; e is the last
  have sR : ∀ y, RS9 σ s ow x y → SUC (gi σ 195 y).toInt lo (RS9 σ s ow x) y := fun y hy => by
    have := (j1.2 y hy.1).2.2.1 (by have := hy.2; omega) (by have := hy.2; omega) (by have := hy.2; omega)
    rw [hy.2] at this; exact this
  have nxR : ∀ y, RS9 σ s ow x y → gi s2 195 y = gi σ 195 y := fun y hy => nx y (fun q1 q2 => by have := (nl y q1 q2).2.2; have := hy.2; omega)
  have eM : ∀ z, RS9 σ s ow x z → z ≤ e := fun z hz => by
    rw [nxR e he] at hn
    rcases sR e he with g | ⟨w, w1, _⟩
    · exact g.2 z hz
    · omega
  have eR := R e he
  have le_x : ∀ z, RS9 σ s ow C z → V.toInt = -1 ∨ (z : Int) < V.toInt → z ≤ x := fun z hz q => by
    rcases sx with sx | ⟨w, w1, w2, w3, w4⟩
    · exact sx.2 z hz
    · rcases w4 z hz with g | g
      · exact g
      · rcases q with q | q <;> omega
  have lt_V : ∀ z : Nat, z ≤ x → V.toInt = -1 ∨ (z : Int) < V.toInt := fun z hz => by
    rcases sx with sx | ⟨w, w1, w2, w3, w4⟩
    · exact Or.inl sx.1
    · have := (j1.2 w w2.1).1.2
      right; omega
  refine ⟨n2, fun z hz => ?_, ?_, fun y hy hky hle => ?_, fun y hy hky => ?_, ?_⟩
  · rcases (rsC z).mp hz with g | g
    · exact j2 z g.1
    · have := R z g; have := j2 x xC; omega
  · rcases sx with sx | ⟨z, z1, z2, z3, z4⟩
    · exact Or.inl sx.1
    · have := (j1.2 z z2.1).1.2
      exact Or.inr ⟨z, z1, (rsC z).mpr (Or.inl ⟨z2, by omega⟩)⟩
  · rcases sx with sx | ⟨z, z1, z2, z3, z4⟩
    · exact absurd sx.1 hky
    · have lz := (j1.2 z z2.1).1.2
      rcases (rsC y).mp hy with g | g
      · rw [nx y (fun q1 q2 => by have := (nl y q1 q2).1; omega)]
        rcases j4 y g.1 (by omega) (by omega) with ⟨p1, p2⟩ | ⟨w, p1, p2, p3, p4⟩
        · refine Or.inl ⟨p1, fun z' hz' => ?_⟩
          rcases (rsC z').mp hz' with t | t
          · exact p2 z' t.1
          · have := (R z' t).1; omega
        · have lw := (j1.2 w p2.1).1.2
          refine Or.inr ⟨w, p1, (rsC w).mpr (Or.inl ⟨p2, by omega⟩), p3, fun z' hz' => ?_⟩
          rcases (rsC z').mp hz' with t | t
          · exact p4 z' t.1
          · have := (R z' t).1; left; omega
      · have := (R y g).1; omega
  · rcases (rsC y).mp hy with g | g
    · have yx := le_x y g.1 hky
      have yx2 : y < x := by have := g.2; omega
      have q : ¬ H.toInt = -1 := fun q => by
        rcases j6 with j6 | ⟨u, b, q1, _⟩
        · have := j6.2.2 y g.1; omega
        · omega
      obtain ⟨b, b1, b2, b3, b4, b5⟩ := jl q
      have yb := b4 y g.1 (by omega)
      by_cases d : y = b
      · subst d
        refine Or.inr ⟨a', by have := nx_l q; rw [b1] at this; exact this, ⟨(rsC a').mpr (Or.inr aR), lt_V a' (by omega)⟩, by omega, fun z' hz' => ?_⟩
        rcases (rsC z').mp hz'.1 with t | t
        · have := le_x z' t.1 hz'.2
          have := t.2
          left; exact b4 z' t.1 (by omega)
        · right; exact (R z' t).2.2
      · rw [nx y (fun _ q2 => by omega)]
        have bl := (j1.2 b b2.1).1.2
        rcases j5 y g.1 (Or.inr (by omega)) with ⟨p1, p2⟩ | ⟨w, p1, p2, p3, p4⟩
        · have := p2 b ⟨b2, Or.inr (by omega)⟩
          omega
        · have wx : w < x := by rcases p2.2 with t | t <;> omega
          refine Or.inr ⟨w, p1, ⟨(rsC w).mpr (Or.inl ⟨p2.1, by omega⟩), lt_V w (by omega)⟩, p3, fun z' hz' => ?_⟩
          rcases (rsC z').mp hz'.1 with t | t
          · have := le_x z' t.1 hz'.2
            have := t.2
            exact p4 z' ⟨t.1, Or.inr (by omega)⟩
          · have := R z' t
            have := b4 w p2.1 (by omega)
            have lz := (j1.2 z' t.1).1.2
            right; omega
    · rw [nxR y g]
      have Ry := R y g
      have notC : ∀ z', (RS9 s2 s (mrg9 ow x C) C z' ∧ (V.toInt = -1 ∨ (z' : Int) < V.toInt)) → ¬ RS9 σ s ow x z' → z' < lo x := fun z' hz' hr => by
        rcases (rsC z').mp hz'.1 with t | t
        · have := le_x z' t.1 hz'.2
          have := t.2
          have q : ¬ H.toInt = -1 := fun q => by
            rcases j6 with j6 | ⟨u, b, q1, _⟩
            · have := j6.2.2 z' t.1; omega
            · omega
          obtain ⟨b, b1, b2, b3, b4, b5⟩ := jl q
          have := b4 z' t.1 (by omega)
          omega
        · exact absurd t hr
      have ly := (j1.2 y g.1).1.2
      rcases sR y g with ⟨p1, p2⟩ | ⟨w, p1, p2, p3, p4⟩
      · refine Or.inl ⟨p1, fun z' hz' => ?_⟩
        by_cases t : RS9 σ s ow x z'
        · exact p2 z' t
        · have := notC z' hz' t; omega
      · have Rw := R w p2
        refine Or.inr ⟨w, p1, ⟨(rsC w).mpr (Or.inr p2), lt_V w (by omega)⟩, p3, fun z' hz' => ?_⟩
        by_cases t : RS9 σ s ow x z'
        · exact p4 z' t
        · have := notC z' hz' t; left; omega
  · right
    have kx : V.toInt = -1 ∨ ((e : Int) < V.toInt ∧ ∃ x' : Nat, V.toInt = x' ∧ e < lo x') := by
      rcases sx with sx | ⟨w, w1, w2, w3, w4⟩
      · exact Or.inl sx.1
      · have := (j1.2 w w2.1).1.2
        exact Or.inr ⟨by omega, w, w1, by omega⟩
    have le_e : ∀ z, RS9 s2 s (mrg9 ow x C) C z → V.toInt = -1 ∨ (z : Int) < V.toInt → z ≤ e := fun z hz hq => by
      rcases (rsC z).mp hz with t | t
      · have := le_x z t.1 hq
        have := t.2
        have q : ¬ H.toInt = -1 := fun q => by
          rcases j6 with j6 | ⟨u, b, q1, _⟩
          · have := j6.2.2 z t.1; omega
          · omega
        obtain ⟨b, b1, b2, b3, b4, b5⟩ := jl q
        have := b4 z t.1 (by omega)
        have le := (j1.2 e he.1).1.2
        omega
      · exact eM z t
    have eC : RS9 s2 s (mrg9 ow x C) C e := (rsC e).mpr (Or.inr he)
    by_cases q : H.toInt = -1
    · refine ⟨a', e, by rw [if_pos q], rfl, (rsC a').mpr (Or.inr aR), eC, kx, fun z hz => ?_, le_e⟩
      rcases (rsC z).mp hz with t | t
      · rcases j6 with j6 | ⟨u, b, q1, _⟩
        · have := j6.2.2 z t.1; omega
        · omega
      · exact (R z t).2.2
    · obtain ⟨b, b1, b2, b3, b4, u, u1, u2, u3⟩ := jl q
      have ub := u3 b b2
      have bl := (j1.2 b b2.1).1.2
      refine ⟨u, e, by rw [if_neg q]; exact u1, rfl, (rsC u).mpr (Or.inl ⟨u2, by omega⟩), eC, kx, fun z hz => ?_, le_e⟩
      rcases (rsC z).mp hz with t | t
      · exact u3 z t.1
      · have := R z t
        have lz := (j1.2 z t.1).1.2
        omega
/-- what is joined: its node is to come -/
def JRES (σ σ' : St) (s : Nat) (lo : Nat → Nat) (ow : Nat → Nat) (C f : Nat) (r : Int) : Prop := ∃ (lo' ow' : Nat → Nat) (x : Nat), r = x ∧ NDI σ' s lo' ow' 7000 ∧ inN σ' s x ∧ ow' x = 8000 ∧ f ≤ lo' x ∧ (∀ y, y < 250 * s + nN σ s → lo' y = lo y) ∧ (∀ z, ¬ RS9 σ' s ow' C z) ∧ (∀ D, 10000 ≤ D → ¬ D = C → ∀ z, RS9 σ' s ow' D z ↔ RS9 σ s ow D z) ∧ nN σ s ≤ nN σ' s ∧ nN σ' s ≤ nN σ s + 1
/-- the owners that are formulas are kept on the way -/
def OKP (σ σ' : St) (s : Nat) (ow ow' : Nat → Nat) (C : Nat) : Prop := nN σ' s = nN σ s ∧ ∀ D, 10000 ≤ D → ¬ D = C → ∀ z, RS9 σ' s ow' D z ↔ RS9 σ s ow D z
theorem okp_mrg {σ σ' : St} {s x C : Nat} {ow : Nat → Nat} (n0 : nN σ' s = nN σ s) (xo : ow x = C) (hx : x < 7000) : OKP σ σ' s ow (mrg9 ow x C) C := by
  refine ⟨n0, fun D hD hn z => ?_⟩
  unfold RS9 inN mrg9
  rw [n0]
  by_cases c : z = x
  · rw [if_pos c, c, xo]
    exact ⟨fun q => by omega, fun q => absurd q.2.symm hn⟩
  · rw [if_neg c]
    by_cases d : ow z = x
    · rw [if_pos d, d]
      exact ⟨fun q => absurd q.2.symm hn, fun q => by omega⟩
    · rw [if_neg d]
theorem okp_tr {a b c : St} {s C : Nat} {o1 o2 o3 : Nat → Nat} (h1 : OKP a b s o1 o2 C) (h2 : OKP b c s o2 o3 C) : OKP a c s o1 o3 C := ⟨h2.1.trans h1.1, fun D hD hn z => (h2.2 D hD hn z).trans (h1.2 D hD hn z)⟩
theorem join_end {σ0 σ σ' : St} {s C f : Nat} {lo ow0 ow : Nat → Nat} {H L : Int32} {kd b : Int32} (h : JOI σ s lo ow C f H.toInt L.toInt (-1)) (ok : OKP σ0 σ s ow0 ow C) (hf : 250 * s ≤ f) (hC : 10000 ≤ C) (hN : nN σ s ≤ 249) (w : NEWN σ σ' s kd H b) : JRES σ0 σ' s lo ow0 C f ((250 * s + nN σ s : Nat) : Int) := by
  obtain ⟨j1, j2, j3, j4, j5, j6⟩ := h
  have c1 := ndi_close j1 (fun y hy => (j5 y hy (Or.inl rfl)).cg (fun z => ⟨fun q => ⟨q, Or.inl rfl⟩, fun q => q.1⟩) (fun _ _ => rfl))
  have top := ndi_top j1
  have n1 := newn_nN w j1.1.1
  rcases j6 with j6 | ⟨a, b', q1, q2, q3, q4, q5, q6, q7⟩
  · exact absurd rfl j6.2.1
  · have fa := j2 a q3
    have la := (j1.2 a q3.1).1.2
    have at9' := q3.1.2
    have hnew := nd_new c1 w rfl hN hC (l := f) ⟨hf, by omega⟩ (fun z hz => j2 z hz) (fun _ => ⟨a, q1, q3, q6⟩)
    refine ⟨_, _, 250 * s + nN σ s, rfl, hnew, ⟨by omega, by omega⟩, by unfold own9; rw [if_pos rfl], by rw [set9_eq]; exact Nat.le_refl _, fun y hy => set9_ne (by rw [← ok.1] at hy; omega), fun z q => ?_, fun D hD hn z => (own9_ch n1 rfl (by omega) hD hn z).trans (ok.2 D hD hn z), by rw [← ok.1]; omega, by rw [← ok.1]; omega⟩
    have q2' := q.2
    unfold own9 at q2'
    by_cases c : z = 250 * s + nN σ s
    · rw [if_pos c] at q2'; omega
    · rw [if_neg c] at q2'
      split at q2'
      · omega
      · rename_i d; exact d q2'
/-- one alone is itself -/
theorem join_one {σ : St} {s C f hi n : Nat} {lo ow : Nat → Nat} {F L : Int32} (h : NDI σ s lo ow 7000) (hC : 10000 ≤ C) (c : CHN σ s lo ow C F L n f hi) (hF : ¬ F.toInt = -1) (hn : (gi σ 195 F.toNatClampNeg).toInt = -1) : JRES σ σ s lo ow C f F.toInt := by
  rcases c with c | ⟨c, x, y, h1, h2, h3, h4, h5, h6, h7⟩
  · exact absurd c.2.1 hF
  · have ex : F.toNatClampNeg = x := by show F.toInt.toNat = x; omega
    rw [ex] at hn
    have := (h.2 x h3.1).2.2.1 (by have := h3.2; omega) (by have := h3.2; omega) (by have := h3.2; omega)
    rw [h3.2] at this
    have only : ∀ z, RS9 σ s ow C z → z = x := fun z hz => by
      rcases this with g | ⟨w, w1, _⟩
      · have := g.2 z hz; have := (h7 z hz).1; omega
      · omega
    obtain ⟨t1, t2, t3⟩ := nd_take h hC h3 only
    refine ⟨lo, set9 ow x 8000, x, h1, t1, h3.1, set9_eq, (h7 x h3).2.2, fun _ _ => rfl, t3, fun D hD hn' z => ?_, Nat.le_refl _, Nat.le_succ _⟩
    unfold RS9
    by_cases q : z = x
    · rw [q, set9_eq]
      exact ⟨fun g => by have := g.2; omega, fun g => absurd (g.2.symm.trans h3.2) hn'⟩
    · rw [set9_ne q]
/-- the same with whose they are not said -/
def JI (σ0 σ : St) (s : Nat) (lo ow0 : Nat → Nat) (C f : Nat) (head last k : Int) : Prop := ∃ ow, JOI σ s lo ow C f head last k ∧ OKP σ0 σ s ow0 ow C
theorem ji_start {σ : St} {s C : Nat} {lo ow : Nat → Nat} {F L M : Int32} {n f hi : Nat} (h : NDI σ s lo ow 7000) (hC : 10000 ≤ C) (c : CHN σ s lo ow C F L n f hi) (hM : M.toInt = -1) (hn : ¬ gi σ 195 F.toNatClampNeg = M) (h0 : 0 ≤ F.toInt) : JI σ σ s lo ow C f (-1) (-1) F.toInt :=
  ⟨ow, joi_start h hC c (by omega), rfl, fun _ _ _ _ => Iff.rfl⟩
theorem joi_at {σ : St} {s C f : Nat} {lo ow : Nat → Nat} {H L : Int} {K : Int32} (h : JOI σ s lo ow C f H L K.toInt) (hK : ¬ K.toInt = -1) : 250 * (s : Int) ≤ K.toInt ∧ K.toInt < 250 * (s : Int) + nN σ s ∧ s ≤ 25 ∧ nN σ s ≤ 250 ∧ RS9 σ s ow C K.toNatClampNeg := by
  have t1 := h.1.1.2.1
  have t2 := h.1.1.2.2
  have e9 : nN σ s = (gi σ 194 s).toInt.toNat := rfl
  rcases h.2.2.1 with g | ⟨x, q1, q2⟩
  · exact absurd g hK
  · have ex : K.toNatClampNeg = x := by show K.toInt.toNat = x; omega
    rw [ex]
    exact ⟨by have := q2.1.1; omega, by have := q2.1.2; omega, t2, by omega, q2⟩
theorem joi_row_at {σ : St} {s C f : Nat} {lo ow : Nat → Nat} {H L : Int} {K A kd : Int32} (h : JOI σ s lo ow C f H L K.toInt) (hC : 10000 ≤ C) (hK : ¬ K.toInt = -1) (hk : gi σ 198 K.toNatClampNeg = kd) (h34 : kd.toInt = 3 ∨ kd.toInt = 4) (hA : gi σ 197 K.toNatClampNeg = A) : 250 * (s : Int) ≤ A.toInt ∧ A.toInt < K.toInt ∧ RS9 σ s ow K.toNatClampNeg A.toNatClampNeg := by
  obtain ⟨k1, k2, k3, k4, k5⟩ := joi_at h hK
  have := (h.1.2 _ k5.1).2.2.2.1 (by rw [hk]; exact h34)
  obtain ⟨a, a1, a2, a3, a4, a5⟩ := this
  have b := a5 (by have := k5.2; omega)
  rw [hA] at a1
  have ea : A.toNatClampNeg = a := by show A.toInt.toNat = a; omega
  have eK : K.toNatClampNeg = K.toInt.toNat := rfl
  have e9 := k5.1.2
  rw [ea]
  exact ⟨by omega, by omega, ⟨a2, by omega⟩, b.1⟩
/-- on the way through a row's own nodes -/
theorem joi_walk {σ : St} {s C f : Nat} {lo ow : Nat → Nat} {H L : Int} {K E Z : Int32} (h : JOI σ s lo ow C f H L K.toInt) (hC : 10000 ≤ C) (hK : ¬ K.toInt = -1) (hE : RS9 σ s ow K.toNatClampNeg E.toNatClampNeg) (hz : gi σ 195 E.toNatClampNeg = Z) (hn : ¬ Z.toInt = -1) : RS9 σ s ow K.toNatClampNeg Z.toNatClampNeg ∧ E.toInt < Z.toInt ∧ Z.toInt < K.toInt ∧ 0 ≤ Z.toInt := by
  obtain ⟨k1, k2, k3, k4, k5⟩ := joi_at h hK
  have eK : K.toNatClampNeg = K.toInt.toNat := rfl
  have g := (h.1.2 _ hE.1).2.2.1 (by have := hE.2; omega) (by have := hE.2; omega) (by have := hE.2; omega)
  rw [hE.2, hz] at g
  rcases g with g | ⟨z, z1, z2, z3, z4⟩
  · exact absurd g.1 hn
  · have eZ : Z.toNatClampNeg = z := by show Z.toInt.toNat = z; omega
    have eE : E.toNatClampNeg = E.toInt.toNat := rfl
    have lz := (h.1.2 z z2.1).1.2
    have g5 := (h.1.2 z z2.1).2.2.2.2.1
    rw [z2.2] at g5
    rw [eZ]
    refine ⟨z2, by omega, ?_, by omega⟩
    rcases g5 with g5 | g5
    · omega
    · omega
theorem joi_last {σ : St} {s C f : Nat} {lo ow : Nat → Nat} {H : Int} {L K : Int32} (h : JOI σ s lo ow C f H L.toInt K.toInt) (hH : ¬ H = -1) : 0 ≤ L.toInt ∧ L.toInt < 6500 := by
  have top := ndi_top h.1
  have t1 := h.1.1.2.1
  have t2 := h.1.1.2.2
  have e9 : nN σ s = (gi σ 194 s).toInt.toNat := rfl
  rcases h.2.2.2.2.2 with g | ⟨a, b, q1, q2, q3, q4, _⟩
  · exact absurd g.1 hH
  · have := q4.1.2
    omega
theorem ji_one {σ0 σ s1 s2 : St} {s C f x : Nat} {lo ow0 ow : Nat → Nat} {H L K M V : Int32} {h' l' v' : Int} (h : JOI σ s lo ow C f H.toInt L.toInt K.toInt) (ok : OKP σ0 σ s ow0 ow C) (hC : 10000 ≤ C) (hx : K.toInt = x) (e1 : s1 = si σ 195 x M) (hM : M.toInt = -1) (hV : V = gi σ 195 x)
    (e2 : (H.toInt = -1 ∧ s2 = s1) ∨ (¬ H.toInt = -1 ∧ ∃ W : Int32, s2 = si s1 195 L.toNatClampNeg W ∧ W.toInt = x)) (eh : h' = if H.toInt = -1 then (x : Int) else H.toInt) (el : l' = x) (ev : v' = V.toInt) : JI σ0 s2 s lo ow0 C f h' l' v' := by
  subst eh el ev
  refine ⟨ow, joi_one h hC hx e1 hM hV e2, okp_tr ok ⟨?_, fun D _ _ z => ?_⟩⟩
  · rcases e2 with e2 | ⟨_, W, e2, _⟩
    · rw [e2.2, e1, si_nN]
    · rw [e2, si_nN, e1, si_nN]
  · rcases e2 with e2 | ⟨_, W, e2, _⟩
    · rw [e2.2, e1]; exact si_rs ..
    · rw [e2, e1]; exact (si_rs ..).trans (si_rs ..)
theorem ji_row {σ0 σ s1 s2 : St} {s C f x a e : Nat} {lo ow0 ow : Nat → Nat} {H L K V A : Int32} {h' l' v' : Int} (h : JOI σ s lo ow C f H.toInt L.toInt K.toInt) (ok : OKP σ0 σ s ow0 ow C) (hC : 10000 ≤ C) (hx : K.toInt = x) (e1 : s1 = si σ 195 x V) (hV : V = gi σ 195 x) (hk : (gi σ 198 x).toInt = 3 ∨ (gi σ 198 x).toInt = 4) (hA : A = gi σ 197 x) (ha : A.toInt = a)
    (e2 : (H.toInt = -1 ∧ s2 = s1) ∨ (¬ H.toInt = -1 ∧ ∃ W : Int32, s2 = si s1 195 L.toNatClampNeg W ∧ W.toInt = a)) (he : RS9 σ s ow x e) (hn : (gi s2 195 e).toInt = -1) (eh : h' = if H.toInt = -1 then (a : Int) else H.toInt) (el : l' = e) (ev : v' = V.toInt) : JI σ0 s2 s lo ow0 C f h' l' v' := by
  subst eh el ev
  have top := ndi_top h.1
  have xC : RS9 σ s ow C x := by
    rcases h.2.2.1 with g | ⟨x', q1, q2⟩
    · omega
    · have : x' = x := by omega
      rw [← this]; exact q2
  refine ⟨_, joi_row h hC hx e1 hV hk hA ha e2 he hn, okp_tr ok (okp_mrg ?_ xC.2 (by have := xC.1.2; omega))⟩
  rcases e2 with e2 | ⟨_, W, e2, _⟩
  · rw [e2.2, e1, si_nN]
  · rw [e2, si_nN, e1, si_nN]
theorem ji_end {σ0 σ σ' : St} {s C f : Nat} {lo ow0 : Nat → Nat} {H L K : Int32} {kd b : Int32} {r : Int} (h : JI σ0 σ s lo ow0 C f H.toInt L.toInt K.toInt) (hK : K.toInt = -1) (hf : 250 * s ≤ f) (hC : 10000 ≤ C) (hN : nN σ0 s ≤ 249) (w : NEWN σ σ' s kd H b) (hr : r = 250 * (s : Int) + nN σ s) : JRES σ0 σ' s lo ow0 C f r := by
  obtain ⟨ow, h1, h2⟩ := h
  rw [hK] at h1
  have := join_end h1 h2 hf hC (by rw [h2.1]; exact hN) w
  rw [hr]
  have e : ((250 * s + nN σ s : Nat) : Int) = 250 * (s : Int) + nN σ s := by omega
  rw [e] at this
  exact this
theorem chn_first {σ : St} {s C f hi n : Nat} {lo ow : Nat → Nat} {F L : Int32} (c : CHN σ s lo ow C F L n f hi) (hn : 1 ≤ n) (h : NDI σ s lo ow 7000) : 250 * (s : Int) ≤ F.toInt ∧ F.toInt < 250 * (s : Int) + nN σ s ∧ s ≤ 25 ∧ nN σ s ≤ 250 := by
  have t1 := h.1.2.1
  have t2 := h.1.2.2
  have e9 : nN σ s = (gi σ 194 s).toInt.toNat := rfl
  rcases c with c | ⟨_, x, y, h1, h2, h3, _⟩
  · omega
  · have := h3.1.1; have := h3.1.2
    omega
theorem joi_lastC {σ : St} {s C f : Nat} {lo ow : Nat → Nat} {H : Int} {L K : Int32} (h : JOI σ s lo ow C f H L.toInt K.toInt) (hH : ¬ H = -1) : ow L.toNatClampNeg = C := by
  rcases h.2.2.2.2.2 with g | ⟨a, b, q1, q2, q3, q4, _⟩
  · exact absurd g.1 hH
  · have e : L.toNatClampNeg = b := by show L.toInt.toNat = b; omega
    rw [e]; exact q4.2
theorem walk_1 {σ s1 : St} {x e : Nat} {V : Int32} (e1 : s1 = si σ 195 x V) (he : ¬ e = x) : gi σ 195 e = gi s1 195 e := by
  rw [e1, gi_si, if_neg (fun g => he g.2)]
theorem walk_2 {σ s1 s2 : St} {x lp e C : Nat} {V W : Int32} {ow : Nat → Nat} (e1 : s1 = si σ 195 x V) (e2 : s2 = si s1 195 lp W) (he : ¬ e = x) (ho : ow e = x) (hl : ow lp = C) (hC : ¬ x = C) : gi σ 195 e = gi s2 195 e := by
  rw [e2, gi_si, if_neg (fun g => by have := g.2; rw [this, hl] at ho; exact hC ho.symm)]
  exact walk_1 e1 he
