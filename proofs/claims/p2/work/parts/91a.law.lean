-- ===== a node comes to the latest open formula =====
/-- no row is anybody's behind the open formulas -/
def NOW9 (σ : St) (s : Nat) (ow : Nat → Nat) (n : Nat) : Prop := ∀ D, 10000 + 2 * n ≤ D → ∀ z, ¬ RS9 σ s ow D z
/-- the number of 'not's of the latest is another -/
theorem frc_nots {σ σ' : St} {s : Nat} {lo ow : Nat → Nat} {j : Int} {n n' a b : Nat} {fr : List FFr} {F : Nat} {v : Int32} (h : FRC σ s lo ow ((j, n, a, b) :: fr) F) (e : σ' = si σ 166 fr.length v) (hv : v.toInt = n') : FRC σ' s lo ow ((j, n', a, b) :: fr) F := by
  have f : ∀ q k, ¬ q = 166 → gi σ' q k = gi σ q k := fun q k c => by rw [e, gi_si, if_neg (fun g => c g.1)]
  have rs : ∀ C z, RS9 σ' s ow C z ↔ RS9 σ s ow C z := fun C z => by unfold RS9 inN nN; rw [f 194 _ (by decide)]
  obtain ⟨f0, f1, f2, h1, h2, h3, h4, h5, h6, h7, h8, h9, h10⟩ := h
  refine ⟨f0, f1, f2, h1, h2, h3, h4, by rw [f 172 _ (by decide)]; exact h5, by rw [e, gi_si, if_pos ⟨rfl, rfl⟩]; exact hv, by rw [f 171 _ (by decide)]; exact h7, chnf_of (f 170 _ (by decide)) (f 169 _ (by decide)) (rs _) (fun _ _ => rfl) h8, chnf_of (f 168 _ (by decide)) (f 167 _ (by decide)) (rs _) (fun _ _ => rfl) h9, ?_⟩
  refine frc_of (fun q q1 q2 k hk => ?_) (fun _ _ => rfl) (fun C _ _ z => rs C z) h10
  rw [e, gi_si, if_neg (fun g => by have := g.2; omega)]
/-- a node that is to come goes to the row of 'and' of the latest open formula -/
theorem pnd_and {σ s1 s2 : St} {s : Nat} {lo ow : Nat → Nat} {j : Int} {n a b : Nat} {fr : List FFr} {x F : Nat} {v w : Int32} (h : PND σ s lo ow ((j, n, a, b) :: fr) x F) (hl : fr.length ≤ 100) (hv : v.toInt = x) (hw : w.toInt = x)
    (e1 : ((gi σ 168 fr.length).toInt = -1 ∧ s1 = si σ 168 fr.length v) ∨ (¬ (gi σ 168 fr.length).toInt = -1 ∧ s1 = si σ 195 (gi σ 167 fr.length).toNatClampNeg v)) (e2 : s2 = si s1 167 fr.length w) :
    FRC s2 s lo (set9 ow x (10000 + 2 * fr.length)) ((j, n, a, b + 1) :: fr) (250 * s + nN s2 s) ∧ NDI s2 s lo (set9 ow x (10000 + 2 * fr.length)) 7000 ∧ nN s2 s = nN σ s := by
  obtain ⟨p1, p2, p3, p4, p5⟩ := h
  obtain ⟨f0, f1, f2, h1, h2, h3, h4, h5, h6, h7, h8, h9, h10⟩ := p2
  have px := p4.2
  have lx9 := (p1.2 x p4).1.2
  -- the row first, in a state where only what comes behind one may have changed
  have key : ∀ (F' L' : Int32) (σ' : St), L'.toInt = x → ((gi σ 168 fr.length).toInt = -1 ∧ F'.toInt = x ∧ σ' = σ) ∨ (¬ (gi σ 168 fr.length).toInt = -1 ∧ F' = gi σ 168 fr.length ∧ ∃ v : Int32, σ' = si σ 195 (gi σ 167 fr.length).toNatClampNeg v ∧ v.toInt = x) →
      CHN σ' s lo (set9 ow x (10000 + 2 * fr.length)) (10000 + 2 * fr.length) F' L' (b + 1) f2 (250 * s + nN σ s) ∧ NDI σ' s lo (set9 ow x (10000 + 2 * fr.length)) 7000 := fun F' L' σ' hL' e =>
    chn_put h9 p1 p4 p3 h4 p5 (by omega) px hL' e
  have f : ∀ q k, ¬ q = 195 → ¬ (q = 167 ∧ k = fr.length) → ¬ (q = 168 ∧ k = fr.length) → gi s2 q k = gi σ q k := fun q k c1 c2 c3 => by
    rw [e2, gi_si, if_neg c2]
    rcases e1 with e1 | e1
    · rw [e1.2, gi_si, if_neg c3]
    · rw [e1.2, gi_si, if_neg (fun g => c1 g.1)]
  have n0 : nN s2 s = nN σ s := by show (gi s2 194 s).toInt.toNat = _; rw [f 194 _ (by decide) (fun g => by have := g.1; omega) (fun g => by have := g.1; omega)]
  have f7 : gi s2 167 fr.length = w := by rw [e2, gi_si, if_pos ⟨rfl, rfl⟩]
  have rs : ∀ D, ¬ D = 10000 + 2 * fr.length → ¬ D = 8000 → ∀ z, RS9 s2 s (set9 ow x (10000 + 2 * fr.length)) D z ↔ RS9 σ s ow D z := fun D d1 d2 => rs_put n0 p5 d1 d2
  have rest : FRC s2 s lo (set9 ow x (10000 + 2 * fr.length)) fr f0 := frc_of (fun q q1 q2 k hk => f q k (by omega) (fun g => by have := g.2; omega) (fun g => by have := g.2; omega)) (fun _ _ => rfl) (fun C c1 c2 => rs C (by omega) (by omega)) h10
  have orr : CHN s2 s lo (set9 ow x (10000 + 2 * fr.length)) (10001 + 2 * fr.length) (gi s2 170 fr.length) (gi s2 169 fr.length) a f1 f2 := chnf_of (f 170 _ (by decide) (fun g => by have := g.1; omega) (fun g => by have := g.1; omega)) (f 169 _ (by decide) (fun g => by have := g.1; omega) (fun g => by have := g.1; omega)) (rs _ (by omega) (by omega)) (fun _ _ => rfl) h8
  have fin : CHN s2 s lo (set9 ow x (10000 + 2 * fr.length)) (10000 + 2 * fr.length) (gi s2 168 fr.length) (gi s2 167 fr.length) (b + 1) f2 (250 * s + nN s2 s) ∧ NDI s2 s lo (set9 ow x (10000 + 2 * fr.length)) 7000 := by
    rw [f7, n0]
    rcases e1 with e1 | e1
    · have f8 : gi s2 168 fr.length = v := by rw [e2, gi_si, if_neg (fun g => by have := g.1; omega), e1.2, gi_si, if_pos ⟨rfl, rfl⟩]
      rw [f8]
      obtain ⟨k1, k2⟩ := key v w σ hw (Or.inl ⟨e1.1, hv, rfl⟩)
      have g5 : ∀ k, gi s2 195 k = gi σ 195 k := fun k => by rw [e2, gi_si, if_neg (fun g => by have := g.1; omega), e1.2, gi_si, if_neg (fun g => by have := g.1; omega)]
      exact ⟨chnf_of rfl rfl (fun z => by unfold RS9 inN; rw [n0]) (fun _ _ => rfl) k1, NDI_of (fun k => f 194 k (by decide) (fun g => by have := g.1; omega) (fun g => by have := g.1; omega)) g5 (fun k => f 197 k (by decide) (fun g => by have := g.1; omega) (fun g => by have := g.1; omega)) (fun k => f 198 k (by decide) (fun g => by have := g.1; omega) (fun g => by have := g.1; omega)) k2⟩
    · have f8 : gi s2 168 fr.length = gi σ 168 fr.length := by rw [e2, gi_si, if_neg (fun g => by have := g.1; omega), e1.2, gi_si, if_neg (fun g => by have := g.1; omega)]
      rw [f8]
      obtain ⟨k1, k2⟩ := key _ w s1 hw (Or.inr ⟨e1.1, rfl, v, e1.2, hv⟩)
      have g0 : ∀ q k, ¬ q = 167 → gi s2 q k = gi s1 q k := fun q k c => by rw [e2, gi_si, if_neg (fun g => c g.1)]
      have n1 : nN s1 s = nN σ s := by rw [← n0]; show _ = (gi s2 194 s).toInt.toNat; rw [g0 194 _ (by decide)]
      exact ⟨chnf_of rfl rfl (fun z => by unfold RS9 inN; rw [n0, n1]) (fun _ _ => rfl) k1, NDI_of (fun k => g0 194 k (by decide)) (fun k => g0 195 k (by decide)) (fun k => g0 197 k (by decide)) (fun k => g0 198 k (by decide)) k2⟩
  exact ⟨⟨f0, f1, f2, h1, h2, h3, by rw [n0]; omega, by rw [f 172 _ (by decide) (fun g => by have := g.1; omega) (fun g => by have := g.1; omega)]; exact h5, by rw [f 166 _ (by decide) (fun g => by have := g.1; omega) (fun g => by have := g.1; omega)]; exact h6, by rw [f 171 _ (by decide) (fun g => by have := g.1; omega) (fun g => by have := g.1; omega)]; exact h7, orr, fin.1, rest⟩, fin.2, n0⟩
/-- rows of those behind the open formulas stay nobody's -/
theorem now_new {σ σ' : St} {s K n : Nat} {ow : Nat → Nat} (h : NOW9 σ s ow n) (n1 : nN σ' s = nN σ s + 1) (hK : K = 250 * s + nN σ s) (hs : K < 7000) (hn : n ≤ 100) : NOW9 σ' s (own9 ow K 20000) n := fun D hD z q => by
  have q2 := q.2
  unfold own9 at q2
  by_cases c : z = K
  · rw [if_pos c] at q2; omega
  · rw [if_neg c] at q2
    split at q2
    · omega
    · exact h D hD z ⟨⟨q.1.1, by have := q.1.2; omega⟩, q2⟩
theorem now_put {σ σ' : St} {s x C n : Nat} {ow : Nat → Nat} (h : NOW9 σ s ow n) (n0 : nN σ' s = nN σ s) (hC : C < 10000 + 2 * n) : NOW9 σ' s (set9 ow x C) n := fun D hD z q => by
  have q2 := q.2
  by_cases c : z = x
  · rw [c, set9_eq] at q2; omega
  · rw [set9_ne c] at q2
    exact h D hD z ⟨⟨q.1.1, by have := q.1.2; omega⟩, q2⟩
/-- a node is to come: with all that is kept -/
def PNX (σ : St) (s : Nat) (fs : List FFr) (x : Int) : Prop := ∃ (lo ow : Nat → Nat) (k F : Nat), x = k ∧ PND σ s lo ow fs k F ∧ NOW9 σ s ow fs.length
/-- the nodes and the open formulas of the slot -/
def FOR (σ : St) (s : Nat) (fs : List FFr) : Prop := ∃ lo ow : Nat → Nat, NDI σ s lo ow 7000 ∧ FRC σ s lo ow fs (250 * s + nN σ s) ∧ NOW9 σ s ow fs.length
theorem pnx_0 {σ σ' : St} {s : Nat} {fs : List FFr} {kd a b : Int32} {x : Int} (h : FOR σ s fs) (hN : nN σ s ≤ 249) (hl : fs.length ≤ 100) (w : NEWN σ σ' s kd a b) (eq : ∀ q, 166 ≤ q → q ≤ 172 → ∀ k, k < fs.length → gi σ' q k = gi σ q k) (hk : ¬ (kd.toInt = 3 ∨ kd.toInt = 4)) (hx : x = 250 * (s : Int) + nN σ s) : PNX σ' s fs x := by
  obtain ⟨lo, ow, h1, h2, h3⟩ := h
  have top := ndi_top h1
  exact ⟨_, _, 250 * s + nN σ s, _, by omega, pnd_0 h1 h2 hN hl w eq rfl hk (h3 20000 (by omega)), now_new h3 (newn_nN w h1.1.1) rfl top hl⟩
theorem pnx_not {σ s1 s2 : St} {s : Nat} {j : Int} {n a b : Nat} {fr : List FFr} {kd A B v : Int32} {x y : Int} (h : PNX σ s ((j, n + 1, a, b) :: fr) x) (hN : nN σ s ≤ 249) (hl : fr.length ≤ 90) (w : NEWN σ s1 s kd A B) (eq : ∀ q, 166 ≤ q → q ≤ 172 → ∀ k, gi s1 q k = gi σ q k) (hk : ¬ (kd.toInt = 3 ∨ kd.toInt = 4)) (hy : y = 250 * (s : Int) + nN σ s) (e : s2 = si s1 166 fr.length v) (hv : v.toInt = n) : PNX s2 s ((j, n, a, b) :: fr) y := by
  obtain ⟨lo, ow, k, F, h1, h2, h3⟩ := h
  have top := ndi_top h2.1
  have l2 : ((j, n + 1, a, b) :: fr).length = fr.length + 1 := by simp
  have l3 : ((j, n, a, b) :: fr).length = fr.length + 1 := by simp
  have p := pnd_up h2 hN (by omega) w (fun q q1 q2 k _ => eq q q1 q2 k) rfl hk (h3 20000 (by omega))
  have n2 : nN s2 s = nN s1 s := by show (gi s2 194 s).toInt.toNat = _; rw [e, gi_si, if_neg (fun g => by have := g.1; omega)]
  have g : ∀ q k, ¬ q = 166 → gi s2 q k = gi s1 q k := fun q k c => by rw [e, gi_si, if_neg (fun z => c z.1)]
  refine ⟨_, _, 250 * s + nN σ s, F, by omega, ⟨NDI_of (fun k => g 194 k (by decide)) (fun k => g 195 k (by decide)) (fun k => g 197 k (by decide)) (fun k => g 198 k (by decide)) p.1, frc_nots p.2.1 e hv, p.2.2.1, ⟨p.2.2.2.1.1, by rw [n2]; exact p.2.2.2.1.2⟩, p.2.2.2.2⟩, ?_⟩
  have nw := now_new h3 (newn_nN w h2.1.1.1) rfl top (by omega)
  intro D hD z q
  refine nw D (by rw [l2]; rw [l3] at hD; exact hD) z ⟨⟨q.1.1, by rw [← n2]; exact q.1.2⟩, q.2⟩
theorem pnx_and {σ s1 s2 : St} {s : Nat} {j : Int} {n a b : Nat} {fr : List FFr} {x : Int} {v w : Int32} (h : PNX σ s ((j, n, a, b) :: fr) x) (hl : fr.length ≤ 90) (hv : v.toInt = x) (hw : w.toInt = x)
    (e1 : ((gi σ 168 fr.length).toInt = -1 ∧ s1 = si σ 168 fr.length v) ∨ (¬ (gi σ 168 fr.length).toInt = -1 ∧ s1 = si σ 195 (gi σ 167 fr.length).toNatClampNeg v)) (e2 : s2 = si s1 167 fr.length w) : FOR s2 s ((j, n, a, b + 1) :: fr) ∧ nN s2 s = nN σ s := by
  obtain ⟨lo, ow, k, F, h1, h2, h3⟩ := h
  obtain ⟨p1, p2, p3⟩ := pnd_and h2 (by omega) (hv.trans h1) (hw.trans h1) e1 e2
  have l3 : ((j, n, a, b + 1) :: fr).length = ((j, n, a, b) :: fr).length := by simp
  refine ⟨⟨_, _, p2, p1, ?_⟩, p3⟩
  rw [l3]
  exact now_put h3 p3 (by simp only [List.length_cons]; omega)
-- ===== the reference's tokens as the grammar has them =====
def RTOK (T : TkE) (m : Nat) (σ : St) : Prop := m ≤ 2000 ∧ tK T m = 0 ∧ (∀ k, k < m → (gi σ 205 k).toInt = tK T k ∧ (2 ≤ tK T k → ¬ tK T k = 3 → (gi σ 204 k).toInt = tV T k) ∧ 1 ≤ tK T k ∧ tK T k ≤ 5) ∧ (¬ (0 < m ∧ tK T (m - 1) = 1) → (gi σ 205 m).toInt = 0)
theorem RTK_of {T : TkE} {m : Nat} {s s' : St} (e1 : ∀ k, gi s' 205 k = gi s 205 k) (e2 : ∀ k, gi s' 204 k = gi s 204 k) (h : RTOK T m s) : RTOK T m s' := by
  unfold RTOK at h ⊢
  simp only [e1, e2]
  exact h
/-- a token that may be looked at -/
def OKI (T : TkE) (m i : Nat) : Prop := i ≤ m ∧ (i = m → ¬ (0 < m ∧ tK T (m - 1) = 1))
theorem rt_kind {T : TkE} {m i : Nat} {σ : St} (P : RTOK T m σ) (h : OKI T m i) : (gi σ 205 i).toInt = tK T i ∧ (2 ≤ tK T i → ¬ tK T i = 3 → (gi σ 204 i).toInt = tV T i) ∧ 0 ≤ tK T i ∧ tK T i ≤ 5 ∧ i ≤ 2000 := by
  obtain ⟨p1, p2, p3, p4⟩ := P
  by_cases c : i = m
  · subst c
    rw [p2, p4 (h.2 rfl)]
    exact ⟨rfl, fun q => absurd q (by decide), by decide, by decide, p1⟩
  · have := p3 i (by have := h.1; omega)
    exact ⟨this.1, this.2.1, by omega, this.2.2.2, by have := h.1; omega⟩
theorem oki_next {T : TkE} {m i : Nat} (h : OKI T m i) (h0 : ¬ tK T i = 0) (h1 : ¬ tK T i = 1) (hm : tK T m = 0) : OKI T m (i + 1) := by
  have c : ¬ i = m := fun q => h0 (by rw [q]; exact hm)
  refine ⟨by have := h.1; omega, fun q g => h1 ?_⟩
  have e : m - 1 = i := by omega
  rw [← e]; exact g.2
/-- what endOne's loop keeps -/
def EOI (σ0 σ : St) (s : Nat) (j : Int) (n a b : Nat) (fr : List FFr) : Prop := ∃ n' : Nat, n' ≤ n ∧ PNX σ s ((j, n', a, b) :: fr) (gi σ 84 85).toInt ∧ nN σ s + n' = nN σ0 s + n ∧ (gi σ 84 67).toInt = (gi σ0 84 67).toInt - n + n' ∧ (gi σ 166 fr.length).toInt = n'
theorem pnx_nots {σ : St} {s : Nat} {j : Int} {n a b : Nat} {fr : List FFr} {x : Int} (h : PNX σ s ((j, n, a, b) :: fr) x) : (gi σ 166 fr.length).toInt = n ∧ (0 ≤ (gi σ 194 s).toInt ∧ s ≤ 25) := by
  obtain ⟨lo, ow, k, F, h1, h2, h3⟩ := h
  obtain ⟨f0, f1, f2, g1, g2, g3, g4, g5, g6, _⟩ := h2.2.1
  exact ⟨g6, h2.1.1.1, h2.1.1.2.2⟩
theorem pnx_fr {σ σ' : St} {s : Nat} {fs : List FFr} {x : Int} (g : ∀ q k, 166 ≤ q → q ≤ 198 → gi σ' q k = gi σ q k) (h : PNX σ s fs x) : PNX σ' s fs x := by
  obtain ⟨lo, ow, k, F, h1, h2, h3⟩ := h
  have n0 : nN σ' s = nN σ s := by show (gi σ' 194 s).toInt.toNat = _; rw [g 194 _ (by decide) (by decide)]
  have rs : ∀ D z, RS9 σ' s ow D z ↔ RS9 σ s ow D z := fun D z => by unfold RS9 inN; rw [n0]
  exact ⟨lo, ow, k, F, h1, ⟨NDI_of (fun k => g 194 k (by decide) (by decide)) (fun k => g 195 k (by decide) (by decide)) (fun k => g 197 k (by decide) (by decide)) (fun k => g 198 k (by decide) (by decide)) h2.1, frc_of (fun q q1 q2 k _ => g q k q1 (by omega)) (fun _ _ => rfl) (fun C _ _ => rs C) h2.2.1, h2.2.2.1, ⟨h2.2.2.2.1.1, by rw [n0]; exact h2.2.2.2.1.2⟩, h2.2.2.2.2⟩, fun D hD z q => h3 D hD z ((rs D z).mp q)⟩
theorem for_fr {σ σ' : St} {s : Nat} {fs : List FFr} (g : ∀ q k, 166 ≤ q → q ≤ 198 → gi σ' q k = gi σ q k) (h : FOR σ s fs) : FOR σ' s fs := by
  obtain ⟨lo, ow, h1, h2, h3⟩ := h
  have n0 : nN σ' s = nN σ s := by show (gi σ' 194 s).toInt.toNat = _; rw [g 194 _ (by decide) (by decide)]
  have rs : ∀ D z, RS9 σ' s ow D z ↔ RS9 σ s ow D z := fun D z => by unfold RS9 inN; rw [n0]
  exact ⟨lo, ow, NDI_of (fun k => g 194 k (by decide) (by decide)) (fun k => g 195 k (by decide) (by decide)) (fun k => g 197 k (by decide) (by decide)) (fun k => g 198 k (by decide) (by decide)) h1, by rw [n0]; exact frc_of (fun q q1 q2 k _ => g q k q1 (by omega)) (fun _ _ => rfl) (fun C _ _ => rs C) h2, fun D hD z q => h3 D hD z ((rs D z).mp q)⟩
theorem sc_fr {σ σ' : St} {k : Nat} {v : Int32} (e : σ' = si σ 84 k v) : ∀ q k', 166 ≤ q → q ≤ 198 → gi σ' q k' = gi σ q k' := fun q k' h _ => by rw [e, gi_si, if_neg (fun g => by have := g.1; omega)]
theorem newn_sc {σ s1 s2 : St} {s k : Nat} {kd a b v : Int32} (w : NEWN σ s1 s kd a b) (e : s2 = si s1 84 k v) : NEWN σ s2 s kd a b := by
  have g := sc_fr e
  obtain ⟨a1, a2, a3, a4, a5⟩ := w
  exact ⟨fun k => (g 198 k (by decide) (by decide)).trans (a1 k), fun k => (g 197 k (by decide) (by decide)).trans (a2 k), fun k => (g 196 k (by decide) (by decide)).trans (a3 k), fun k => (g 195 k (by decide) (by decide)).trans (a4 k), fun j => by rw [g 194 j (by decide) (by decide)]; exact a5 j⟩
/-- a 'not' is taken off: the node above, the numbers -/
theorem eoi_go {σ0 σ s1 s2 s3 s4 : St} {s n a b : Nat} {j : Int} {fr : List FFr} {kd A B x v w : Int32} (h : EOI σ0 σ s j n a b fr) (hn : nN σ0 s + n ≤ 240) (hl : fr.length ≤ 90) (h0 : 0 < (gi σ 166 fr.length).toInt) (w1 : NEWN σ s1 s kd A B) (eq : ∀ q, 166 ≤ q → q ≤ 172 → ∀ k, gi s1 q k = gi σ q k) (e67 : gi s1 84 67 = gi σ 84 67) (hk : ¬ (kd.toInt = 3 ∨ kd.toInt = 4)) (hx : x.toInt = 250 * (s : Int) + nN σ s)
    (e2 : s2 = si s1 84 85 x) (e3 : s3 = si s2 166 fr.length v) (hv : v.toInt = (gi σ 166 fr.length).toInt - 1) (e4 : s4 = si s3 84 67 w) (hw : w.toInt = (gi σ 84 67).toInt - 1) : EOI σ0 s4 s j n a b fr := by
  obtain ⟨n', h1, h2, h3, h4, h5⟩ := h
  obtain ⟨m, rfl⟩ : ∃ m, n' = m + 1 := ⟨n' - 1, by omega⟩
  have g2 := sc_fr e2
  have nn := newn_nN w1 (pnx_nots h2).2.1
  have n4 : nN s4 s = nN s1 s := by show (gi s4 194 s).toInt.toNat = _; rw [e4, gi_si, if_neg (fun g => by have := g.1; omega), e3, gi_si, if_neg (fun g => by have := g.1; omega), g2 194 s (by decide) (by decide)]
  have p := pnx_not h2 (by omega) hl (newn_sc w1 e2) (fun q q1 q2 k => (g2 q k q1 (by omega)).trans (eq q q1 q2 k)) hk hx e3 (by omega)
  have c85 : gi s4 84 85 = x := by rw [e4, gi_si, if_neg (fun g => by have := g.2; omega), e3, gi_si, if_neg (fun g => by have := g.1; omega), e2, gi_si, if_pos ⟨rfl, rfl⟩]
  refine ⟨m, by omega, by rw [c85]; exact pnx_fr (sc_fr e4) p, by rw [n4]; omega, ?_, ?_⟩
  · rw [e4, gi_si, if_pos ⟨rfl, rfl⟩, hw, h4]; omega
  · rw [e4, gi_si, if_neg (fun g => by have := g.1; omega), e3, gi_si, if_pos ⟨rfl, rfl⟩, hv]; omega
theorem eoi_0 {σ s1 : St} {s n a b : Nat} {j : Int} {fr : List FFr} {x : Int32} (h : PNX σ s ((j, n, a, b) :: fr) x.toInt) (e : s1 = si σ 84 85 x) : EOI σ s1 s j n a b fr := by
  have g := sc_fr e
  refine ⟨n, Nat.le_refl _, ?_, ?_, ?_, ?_⟩
  · rw [e, gi_si, if_pos ⟨rfl, rfl⟩, ← e]; exact pnx_fr g h
  · show (gi s1 194 s).toInt.toNat + n = _; rw [g 194 s (by decide) (by decide)]
  · rw [e, gi_si, if_neg (fun q => by have := q.2; omega)]; omega
  · rw [g 166 _ (by decide) (by decide)]; exact (pnx_nots h).1
theorem fm_166 {a b : St} {qs ks : List Nat} (h : Fm [194, 195, 196, 197, 198] [] a b) : ∀ q, 166 ≤ q → q ≤ 172 → ∀ k, gi b q k = gi a q k := fun q q1 q2 k => by
  have c : q = 166 ∨ q = 167 ∨ q = 168 ∨ q = 169 ∨ q = 170 ∨ q = 171 ∨ q = 172 := by omega
  rcases c with c | c | c | c | c | c | c <;> (subst c; exact Fm.gi h rfl rfl)
set_option maxHeartbeats 4000000 in
theorem sp_X12_isSign_at_F (G : kG9) {d : Nat} (hd : 0 ≤ d) (σ : St) (T : TkE) (m : Nat) (i : Nat) (a0 : Int32) (p1 : (gi σ 84 28).toInt = i) (p2 : OKI T m i) (P_RTK : RTOK T m σ) : Ct G M_X12_isSign d [.ref 84, .int a0] σ (fun r σ' => ∃ x : Bool, r = some (.int (bI x)) ∧ σ = σ' ∧ (x = true ↔ tsg T i a0.toInt) ∧ True) := by
  refine wa_start (by decide) rfl (Nat.le_of_ble_eq_true rfl) (lv := [(0, .ref 84), (1, .int a0)]) rfl o_X12_isSign_0 rfl ?_
  have ua0 := Int32.toInt_lt a0
  have wa0 := Int32.le_toInt a0
  have in9 : (gi σ 84 28).toNatClampNeg = i := by ((try simp only [vp_in_iff, Int32.lt_iff_toInt_lt, Int32.le_iff_toInt_le, ← Int32.toInt_inj, Int32.reduceToInt, n_1, n_2, n_8, Int32.toNatClampNeg, Int64.lt_iff_toInt_lt, Int64.le_iff_toInt_le, ← Int64.toInt_inj, Int64.reduceToInt, Int32.toInt_toInt64, lg_cmp_ge, lg_cmp_le, lg_cmp_gt, lg_cmp_lt, lg_cmp_eq, Bool.false_eq_true, Bool.true_eq_false, reduceCtorEq, false_iff, true_iff, iff_true, iff_false, and_true, true_and, and_false, false_and, reduceIte, ite_true, ite_false, eq_self] at *)) <;> omega
  have kz : (gi σ 205 (gi σ 84 28).toNatClampNeg).toInt = tK T i ∧ (2 ≤ tK T i → ¬ tK T i = 3 → (gi σ 204 (gi σ 84 28).toNatClampNeg).toInt = tV T i) ∧ 0 ≤ tK T i ∧ tK T i ≤ 5 ∧ i ≤ 2000 := by rw [in9]; exact rt_kind P_RTK p2
  refine wa_aload_n (i := 0) rfl rfl ?_
  refine wa_getr ck_12 fl_12_87 ly_84 rf_84_25 ?_
  refine wa_aload_n (i := 0) rfl rfl ?_
  refine wa_geti ck_12 fl_12_597 ly_84 ?_
  refine wa_iald ly_205 (by ((try simp only [vp_in_iff, Int32.lt_iff_toInt_lt, Int32.le_iff_toInt_le, ← Int32.toInt_inj, Int32.reduceToInt, n_1, n_2, n_8, Int32.toNatClampNeg, Int64.lt_iff_toInt_lt, Int64.le_iff_toInt_le, ← Int64.toInt_inj, Int64.reduceToInt, Int32.toInt_toInt64, lg_cmp_ge, lg_cmp_le, lg_cmp_gt, lg_cmp_lt, lg_cmp_eq, Bool.false_eq_true, Bool.true_eq_false, reduceCtorEq, false_iff, true_iff, iff_true, iff_false, and_true, true_and, and_false, false_and, reduceIte, ite_true, ite_false, eq_self] at *)) <;> omega) ?_
  refine wa_iconst (v := 5) (by decide) ?_
  refine wa_icmp_ne o_X12_isSign_30 (by decide) (fun h1 => ?_) (fun h1 => ?_)
  · refine wa_iconst (v := 0) (by decide) ?_
    refine wa_zreturn false (rfl) rfl rfl ?_
    exact ⟨_, rfl, rfl, (by show _ ↔ tK T i = 5 ∧ tV T i = a0.toInt; ((try simp only [vp_in_iff, Int32.lt_iff_toInt_lt, Int32.le_iff_toInt_le, ← Int32.toInt_inj, Int32.reduceToInt, n_1, n_2, n_8, Int32.toNatClampNeg, Int64.lt_iff_toInt_lt, Int64.le_iff_toInt_le, ← Int64.toInt_inj, Int64.reduceToInt, Int32.toInt_toInt64, lg_cmp_ge, lg_cmp_le, lg_cmp_gt, lg_cmp_lt, lg_cmp_eq, Bool.false_eq_true, Bool.true_eq_false, reduceCtorEq, false_iff, true_iff, iff_true, iff_false, and_true, true_and, and_false, false_and, reduceIte, ite_true, ite_false, eq_self] at *)) <;> omega), trivial⟩
  · refine wa_aload_n (i := 0) rfl rfl ?_
    refine wa_getr ck_12 fl_12_90 ly_84 rf_84_26 ?_
    refine wa_aload_n (i := 0) rfl rfl ?_
    refine wa_geti ck_12 fl_12_597 ly_84 ?_
    refine wa_iald ly_204 (by ((try simp only [vp_in_iff, Int32.lt_iff_toInt_lt, Int32.le_iff_toInt_le, ← Int32.toInt_inj, Int32.reduceToInt, n_1, n_2, n_8, Int32.toNatClampNeg, Int64.lt_iff_toInt_lt, Int64.le_iff_toInt_le, ← Int64.toInt_inj, Int64.reduceToInt, Int32.toInt_toInt64, lg_cmp_ge, lg_cmp_le, lg_cmp_gt, lg_cmp_lt, lg_cmp_eq, Bool.false_eq_true, Bool.true_eq_false, reduceCtorEq, false_iff, true_iff, iff_true, iff_false, and_true, true_and, and_false, false_and, reduceIte, ite_true, ite_false, eq_self] at *)) <;> omega) ?_
    refine wa_iload_n (i := 1) rfl rfl ?_
    refine wa_icmp_ne o_X12_isSign_30 (by decide) (fun h2 => ?_) (fun h2 => ?_)
    · refine wa_iconst (v := 0) (by decide) ?_
      refine wa_zreturn false (rfl) rfl rfl ?_
      exact ⟨_, rfl, rfl, (by show _ ↔ tK T i = 5 ∧ tV T i = a0.toInt; ((try simp only [vp_in_iff, Int32.lt_iff_toInt_lt, Int32.le_iff_toInt_le, ← Int32.toInt_inj, Int32.reduceToInt, n_1, n_2, n_8, Int32.toNatClampNeg, Int64.lt_iff_toInt_lt, Int64.le_iff_toInt_le, ← Int64.toInt_inj, Int64.reduceToInt, Int32.toInt_toInt64, lg_cmp_ge, lg_cmp_le, lg_cmp_gt, lg_cmp_lt, lg_cmp_eq, Bool.false_eq_true, Bool.true_eq_false, reduceCtorEq, false_iff, true_iff, iff_true, iff_false, and_true, true_and, and_false, false_and, reduceIte, ite_true, ite_false, eq_self] at *)) <;> omega), trivial⟩
    · refine wa_iconst (v := 1) (by decide) ?_
      refine wa_goto o_X12_isSign_31 (by decide) ?_
      refine wa_zreturn true (rfl) rfl rfl ?_
      exact ⟨_, rfl, rfl, (by show _ ↔ tK T i = 5 ∧ tV T i = a0.toInt; ((try simp only [vp_in_iff, Int32.lt_iff_toInt_lt, Int32.le_iff_toInt_le, ← Int32.toInt_inj, Int32.reduceToInt, n_1, n_2, n_8, Int32.toNatClampNeg, Int64.lt_iff_toInt_lt, Int64.le_iff_toInt_le, ← Int64.toInt_inj, Int64.reduceToInt, Int32.toInt_toInt64, lg_cmp_ge, lg_cmp_le, lg_cmp_gt, lg_cmp_lt, lg_cmp_eq, Bool.false_eq_true, Bool.true_eq_false, reduceCtorEq, false_iff, true_iff, iff_true, iff_false, and_true, true_and, and_false, false_and, reduceIte, ite_true, ite_false, eq_self] at *)) <;> omega), trivial⟩
set_option maxHeartbeats 4000000 in
theorem sp_X12_isWord_at_F (G : kG9) {d : Nat} (hd : 0 ≤ d) (σ : St) (T : TkE) (m : Nat) (i : Nat) (a0 : Int32) (p1 : (gi σ 84 28).toInt = i) (p2 : OKI T m i) (P_RTK : RTOK T m σ) : Ct G M_X12_isWord d [.ref 84, .int a0] σ (fun r σ' => ∃ x : Bool, r = some (.int (bI x)) ∧ σ = σ' ∧ (x = true ↔ twd T i a0.toInt) ∧ True) := by
  refine wa_start (by decide) rfl (Nat.le_of_ble_eq_true rfl) (lv := [(0, .ref 84), (1, .int a0)]) rfl o_X12_isWord_0 rfl ?_
  have ua0 := Int32.toInt_lt a0
  have wa0 := Int32.le_toInt a0
  have in9 : (gi σ 84 28).toNatClampNeg = i := by ((try simp only [vp_in_iff, Int32.lt_iff_toInt_lt, Int32.le_iff_toInt_le, ← Int32.toInt_inj, Int32.reduceToInt, n_1, n_2, n_8, Int32.toNatClampNeg, Int64.lt_iff_toInt_lt, Int64.le_iff_toInt_le, ← Int64.toInt_inj, Int64.reduceToInt, Int32.toInt_toInt64, lg_cmp_ge, lg_cmp_le, lg_cmp_gt, lg_cmp_lt, lg_cmp_eq, Bool.false_eq_true, Bool.true_eq_false, reduceCtorEq, false_iff, true_iff, iff_true, iff_false, and_true, true_and, and_false, false_and, reduceIte, ite_true, ite_false, eq_self] at *)) <;> omega
  have kz : (gi σ 205 (gi σ 84 28).toNatClampNeg).toInt = tK T i ∧ (2 ≤ tK T i → ¬ tK T i = 3 → (gi σ 204 (gi σ 84 28).toNatClampNeg).toInt = tV T i) ∧ 0 ≤ tK T i ∧ tK T i ≤ 5 ∧ i ≤ 2000 := by rw [in9]; exact rt_kind P_RTK p2
  refine wa_aload_n (i := 0) rfl rfl ?_
  refine wa_getr ck_12 fl_12_87 ly_84 rf_84_25 ?_
  refine wa_aload_n (i := 0) rfl rfl ?_
  refine wa_geti ck_12 fl_12_597 ly_84 ?_
  refine wa_iald ly_205 (by ((try simp only [vp_in_iff, Int32.lt_iff_toInt_lt, Int32.le_iff_toInt_le, ← Int32.toInt_inj, Int32.reduceToInt, n_1, n_2, n_8, Int32.toNatClampNeg, Int64.lt_iff_toInt_lt, Int64.le_iff_toInt_le, ← Int64.toInt_inj, Int64.reduceToInt, Int32.toInt_toInt64, lg_cmp_ge, lg_cmp_le, lg_cmp_gt, lg_cmp_lt, lg_cmp_eq, Bool.false_eq_true, Bool.true_eq_false, reduceCtorEq, false_iff, true_iff, iff_true, iff_false, and_true, true_and, and_false, false_and, reduceIte, ite_true, ite_false, eq_self] at *)) <;> omega) ?_
  refine wa_iconst (v := 4) (by decide) ?_
  refine wa_icmp_ne o_X12_isWord_30 (by decide) (fun h1 => ?_) (fun h1 => ?_)
  · refine wa_iconst (v := 0) (by decide) ?_
    refine wa_zreturn false (rfl) rfl rfl ?_
    exact ⟨_, rfl, rfl, (by show _ ↔ tK T i = 4 ∧ tV T i = a0.toInt; ((try simp only [vp_in_iff, Int32.lt_iff_toInt_lt, Int32.le_iff_toInt_le, ← Int32.toInt_inj, Int32.reduceToInt, n_1, n_2, n_8, Int32.toNatClampNeg, Int64.lt_iff_toInt_lt, Int64.le_iff_toInt_le, ← Int64.toInt_inj, Int64.reduceToInt, Int32.toInt_toInt64, lg_cmp_ge, lg_cmp_le, lg_cmp_gt, lg_cmp_lt, lg_cmp_eq, Bool.false_eq_true, Bool.true_eq_false, reduceCtorEq, false_iff, true_iff, iff_true, iff_false, and_true, true_and, and_false, false_and, reduceIte, ite_true, ite_false, eq_self] at *)) <;> omega), trivial⟩
  · refine wa_aload_n (i := 0) rfl rfl ?_
    refine wa_getr ck_12 fl_12_90 ly_84 rf_84_26 ?_
    refine wa_aload_n (i := 0) rfl rfl ?_
    refine wa_geti ck_12 fl_12_597 ly_84 ?_
    refine wa_iald ly_204 (by ((try simp only [vp_in_iff, Int32.lt_iff_toInt_lt, Int32.le_iff_toInt_le, ← Int32.toInt_inj, Int32.reduceToInt, n_1, n_2, n_8, Int32.toNatClampNeg, Int64.lt_iff_toInt_lt, Int64.le_iff_toInt_le, ← Int64.toInt_inj, Int64.reduceToInt, Int32.toInt_toInt64, lg_cmp_ge, lg_cmp_le, lg_cmp_gt, lg_cmp_lt, lg_cmp_eq, Bool.false_eq_true, Bool.true_eq_false, reduceCtorEq, false_iff, true_iff, iff_true, iff_false, and_true, true_and, and_false, false_and, reduceIte, ite_true, ite_false, eq_self] at *)) <;> omega) ?_
    refine wa_iload_n (i := 1) rfl rfl ?_
    refine wa_icmp_ne o_X12_isWord_30 (by decide) (fun h2 => ?_) (fun h2 => ?_)
    · refine wa_iconst (v := 0) (by decide) ?_
      refine wa_zreturn false (rfl) rfl rfl ?_
      exact ⟨_, rfl, rfl, (by show _ ↔ tK T i = 4 ∧ tV T i = a0.toInt; ((try simp only [vp_in_iff, Int32.lt_iff_toInt_lt, Int32.le_iff_toInt_le, ← Int32.toInt_inj, Int32.reduceToInt, n_1, n_2, n_8, Int32.toNatClampNeg, Int64.lt_iff_toInt_lt, Int64.le_iff_toInt_le, ← Int64.toInt_inj, Int64.reduceToInt, Int32.toInt_toInt64, lg_cmp_ge, lg_cmp_le, lg_cmp_gt, lg_cmp_lt, lg_cmp_eq, Bool.false_eq_true, Bool.true_eq_false, reduceCtorEq, false_iff, true_iff, iff_true, iff_false, and_true, true_and, and_false, false_and, reduceIte, ite_true, ite_false, eq_self] at *)) <;> omega), trivial⟩
    · refine wa_iconst (v := 1) (by decide) ?_
      refine wa_goto o_X12_isWord_31 (by decide) ?_
      refine wa_zreturn true (rfl) rfl rfl ?_
      exact ⟨_, rfl, rfl, (by show _ ↔ tK T i = 4 ∧ tV T i = a0.toInt; ((try simp only [vp_in_iff, Int32.lt_iff_toInt_lt, Int32.le_iff_toInt_le, ← Int32.toInt_inj, Int32.reduceToInt, n_1, n_2, n_8, Int32.toNatClampNeg, Int64.lt_iff_toInt_lt, Int64.le_iff_toInt_le, ← Int64.toInt_inj, Int64.reduceToInt, Int32.toInt_toInt64, lg_cmp_ge, lg_cmp_le, lg_cmp_gt, lg_cmp_lt, lg_cmp_eq, Bool.false_eq_true, Bool.true_eq_false, reduceCtorEq, false_iff, true_iff, iff_true, iff_false, and_true, true_and, and_false, false_and, reduceIte, ite_true, ite_false, eq_self] at *)) <;> omega), trivial⟩
theorem pad_91a : True := trivial
