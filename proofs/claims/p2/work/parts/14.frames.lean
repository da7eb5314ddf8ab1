/-- frames over the reference: arrays, and fields of its object (84) -/
def Fm (qs ks : List Nat) (σ σ' : St) : Prop := ∀ q k, List.elem q qs = false → (q == 84 && List.elem k ks) = false → gi σ' q k = gi σ q k ∧ gl σ' q k = gl σ q k ∧ gb σ' q k = gb σ q k ∧ gy σ' q k = gy σ q k ∧ gr σ' q k = gr σ q k
section FM
variable {qs ks qs' ks' : List Nat} {σ a b c : St}
theorem Fm.rf (qs ks : List Nat) (σ : St) : Fm qs ks σ σ := fun _ _ _ _ => ⟨rfl, rfl, rfl, rfl, rfl⟩
theorem Fm.tr (h : Fm qs ks a b) (h' : Fm qs ks b c) : Fm qs ks a c := fun q k h1 h2 => ⟨(h' q k h1 h2).1.trans (h q k h1 h2).1, (h' q k h1 h2).2.1.trans (h q k h1 h2).2.1, (h' q k h1 h2).2.2.1.trans (h q k h1 h2).2.2.1, (h' q k h1 h2).2.2.2.1.trans (h q k h1 h2).2.2.2.1, (h' q k h1 h2).2.2.2.2.trans (h q k h1 h2).2.2.2.2⟩
theorem elem_sub {xs ys : List Nat} (e : xs.all (fun x => List.elem x ys) = true) {q : Nat} (h : List.elem q ys = false) : List.elem q xs = false := by
  cases h9 : List.elem q xs with
  | false => rfl
  | true =>
    have h1 := List.all_eq_true.mp e q (List.elem_iff.mp h9)
    rw [h] at h1
    cases h1
theorem Fm.wd (h : Fm qs ks a b) (e1 : qs.all (fun x => List.elem x qs') = true) (e2 : ks.all (fun x => List.elem x ks') = true) : Fm qs' ks' a b := fun q k h1 h2 => h q k (elem_sub e1 h1) (by
  cases h9 : (q == 84) with
  | false => rfl
  | true =>
    rw [h9] at h2
    rw [Bool.true_and] at h2 ⊢
    exact elem_sub e2 h2)
theorem fm_ne {q k q' k' : Nat} (e : (List.elem q qs || (q == 84 && List.elem k ks)) = true) (h1 : List.elem q' qs = false) (h2 : (q' == 84 && List.elem k' ks) = false) : ¬ (q' = q ∧ k' = k) := by
  rintro ⟨rfl, rfl⟩
  rw [h1, h2] at e
  cases e
theorem Fm.si (h : Fm qs ks σ a) {q k : Nat} {v : Int32} (e : (List.elem q qs || (q == 84 && List.elem k ks)) = true) : Fm qs ks σ (si a q k v) := fun q' k' h1 h2 => by
  have hn := fm_ne e h1 h2
  have h9 := h q' k' h1 h2
  refine ⟨?_, h9.2.1, h9.2.2.1, h9.2.2.2.1, h9.2.2.2.2⟩
  rw [← h9.1]
  exact if_neg hn
theorem Fm.sl (h : Fm qs ks σ a) {q k : Nat} {v : Int64} (e : (List.elem q qs || (q == 84 && List.elem k ks)) = true) : Fm qs ks σ (sl a q k v) := fun q' k' h1 h2 => by
  have hn := fm_ne e h1 h2
  have h9 := h q' k' h1 h2
  refine ⟨h9.1, ?_, h9.2.2.1, h9.2.2.2.1, h9.2.2.2.2⟩
  rw [← h9.2.1]
  exact if_neg hn
theorem Fm.sb (h : Fm qs ks σ a) {q k : Nat} {v : Bool} (e : (List.elem q qs || (q == 84 && List.elem k ks)) = true) : Fm qs ks σ (sb a q k v) := fun q' k' h1 h2 => by
  have hn := fm_ne e h1 h2
  have h9 := h q' k' h1 h2
  refine ⟨h9.1, h9.2.1, ?_, h9.2.2.2.1, h9.2.2.2.2⟩
  rw [← h9.2.2.1]
  exact if_neg hn
theorem Fm.sy (h : Fm qs ks σ a) {q k : Nat} {v : Int8} (e : (List.elem q qs || (q == 84 && List.elem k ks)) = true) : Fm qs ks σ (sy a q k v) := fun q' k' h1 h2 => by
  have hn := fm_ne e h1 h2
  have h9 := h q' k' h1 h2
  refine ⟨h9.1, h9.2.1, h9.2.2.1, ?_, h9.2.2.2.2⟩
  rw [← h9.2.2.2.1]
  exact if_neg hn
theorem Fm.gi (f : Fm qs ks a b) {q k : Nat} (h1 : List.elem q qs = false) (h2 : (q == 84 && List.elem k ks) = false) : gi b q k = gi a q k := (f q k h1 h2).1
theorem Fm.gl (f : Fm qs ks a b) {q k : Nat} (h1 : List.elem q qs = false) (h2 : (q == 84 && List.elem k ks) = false) : gl b q k = gl a q k := (f q k h1 h2).2.1
theorem Fm.gb (f : Fm qs ks a b) {q k : Nat} (h1 : List.elem q qs = false) (h2 : (q == 84 && List.elem k ks) = false) : gb b q k = gb a q k := (f q k h1 h2).2.2.1
theorem Fm.gy (f : Fm qs ks a b) {q k : Nat} (h1 : List.elem q qs = false) (h2 : (q == 84 && List.elem k ks) = false) : gy b q k = gy a q k := (f q k h1 h2).2.2.2.1
theorem Fm.gr (f : Fm qs ks a b) {q k : Nat} (h1 : List.elem q qs = false) (h2 : (q == 84 && List.elem k ks) = false) : gr b q k = gr a q k := (f q k h1 h2).2.2.2.2
theorem Fm.ofSm {lo hi : Nat} (h : Sm lo hi a b) (e : (List.range (hi - lo)).all (fun i => List.elem (lo + i) qs) = true) : Fm qs ks a b := fun q k h1 _ => by
  have hq : q < lo ∨ hi ≤ q := by
    by_cases c : q < lo
    · exact Or.inl c
    · by_cases d : hi ≤ q
      · exact Or.inr d
      · exfalso
        have := List.all_eq_true.mp e (q - lo) (List.mem_range.mpr (by omega))
        rw [show lo + (q - lo) = q by omega, h1] at this
        cases this
  exact ⟨Sm.gi h k hq, Sm.gl h k hq, Sm.gb h k hq, Sm.gy h k hq, Sm.gr h k hq⟩
end FM
/-- what holds of all numbers of an array -/
def AR (P : Nat → Int → Prop) (σ : St) (q : Nat) : Prop := ∀ k, P k (gi σ q k).toInt
section AR
variable {P : Nat → Int → Prop} {s s' : St} {q q' k : Nat}
theorem ar_at (h : AR P s q) (k : Nat) : P k (gi s q k).toInt := h k
theorem ar_w {v : Int32} (h : s' = si s q k v) (hv : P k v.toInt) (a : AR P s q) : AR P s' q := by
  subst h
  intro j
  by_cases e : j = k
  · subst e
    simpa only [gi, si, up2, and_self, if_true] using hv
  · have := a j
    simpa only [gi, si, up2, e, and_false, if_false] using this
theorem ar_ni {v : Int32} (h : s' = si s q' k v) (hne : ¬ q = q') (a : AR P s q) : AR P s' q := by
  subst h
  intro j
  have := a j
  simpa only [gi, si, up2, hne, false_and, if_false] using this
theorem ar_nl {v : Int64} (h : s' = sl s q' k v) (a : AR P s q) : AR P s' q := by subst h; exact a
theorem ar_nb {v : Bool} (h : s' = sb s q' k v) (a : AR P s q) : AR P s' q := by subst h; exact a
theorem ar_ny {v : Int8} (h : s' = sy s q' k v) (a : AR P s q) : AR P s' q := by subst h; exact a
theorem ar_nr {v : Nat} (h : s' = sr s q' k v) (a : AR P s q) : AR P s' q := by subst h; exact a
theorem ar_fm {qs ks : List Nat} (f : Fm qs ks s s') (h1 : List.elem q qs = false) (h2 : (q == 84) = false) (a : AR P s q) : AR P s' q := fun k => by
  rw [Fm.gi f h1 (by rw [h2]; rfl)]
  exact a k
end AR
