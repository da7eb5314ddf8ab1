-- ===== the class's tokens =====
theorem i_and255 {x v : Int32} (h : x &&& 255 = v) : v.toInt = x.toInt % 256 := by
  subst h
  have key : (x.toBitVec &&& 255#32).toInt = x.toBitVec.toInt % 256 := by
    have e1 : (x.toBitVec &&& 255#32).toNat = x.toBitVec.toNat % 256 := by
      rw [BitVec.toNat_and]
      exact Nat.and_two_pow_sub_one_eq_mod x.toBitVec.toNat 8
    have e2 : (x.toBitVec &&& 255#32).toNat < 256 := by rw [e1]; exact Nat.mod_lt _ (by decide)
    rw [BitVec.toInt_eq_toNat_cond, if_pos (by omega), e1, BitVec.toInt_eq_toNat_cond]
    split <;> omega
  exact key
/-- what the lexer reads from: n bytes b of a place, from o on -/
def SRC9 (b : Nat → Int) (S o n : Nat) (σ : St) : Prop := gr σ 18 6 = S ∧ (gi σ 18 7).toInt = o ∧ (gi σ 18 8).toInt = o + n ∧ n ≤ 2000 ∧ (S = 1 → o + n ≤ 2000) ∧ (S = 6 → o + n ≤ 24800) ∧ (∀ j, j < n → (gy σ S (o + j)).toInt % 256 = b j) ∧ (∀ j, n ≤ j → b j = 0) ∧ (S = 1 ∨ S = 6)
theorem SRC_of {b : Nat → Int} {S o n : Nat} {s s' : St} (e1 : gr s' 18 6 = gr s 18 6) (e2 : gi s' 18 7 = gi s 18 7) (e3 : gi s' 18 8 = gi s 18 8) (e4 : ∀ k, gy s' 1 k = gy s 1 k) (e5 : ∀ k, gy s' 6 k = gy s 6 k) (h : SRC9 b S o n s) : SRC9 b S o n s' := by
  unfold SRC9 at h ⊢
  rw [e1, e2, e3]
  refine ⟨h.1, h.2.1, h.2.2.1, h.2.2.2.1, h.2.2.2.2.1, h.2.2.2.2.2.1, fun j hj => ?_, h.2.2.2.2.2.2.2.1, h.2.2.2.2.2.2.2.2⟩
  rw [← h.2.2.2.2.2.2.1 j hj]
  rcases h.2.2.2.2.2.2.2.2 with c | c
  · subst c; rw [e4]
  · subst c; rw [e5]
theorem src_in {b : Nat → Int} {S o n z : Nat} {σ : St} {i v : Int32} (P : SRC9 b S o n σ) (hz : gr σ 18 6 = z) (h0 : (o : Int) ≤ i.toInt) (h1 : i.toInt < o + n) (e : (gy σ z i.toNatClampNeg).toInt32 &&& 255 = v) : v.toInt = b (i.toInt - o).toNat := by
  have hS : z = S := hz.symm.trans P.1
  subst hS
  rw [i_and255 e, Int8.toInt_toInt32, ← P.2.2.2.2.2.2.1 (i.toInt - o).toNat (by omega)]
  have e9 : i.toNatClampNeg = i.toInt.toNat := rfl
  rw [e9, show o + (i.toInt - o).toNat = i.toInt.toNat from by omega]
theorem src_in2 {b : Nat → Int} {S o n z : Nat} {σ : St} {i v : Int32} (e : (gy σ z i.toNatClampNeg).toInt32 &&& 255 = v) (P : SRC9 b S o n σ) (hz : gr σ 18 6 = z) (h0 : (o : Int) ≤ i.toInt) (h1 : i.toInt < o + n) : v.toInt = b (i.toInt - o).toNat := src_in P hz h0 h1 e
theorem src_out {b : Nat → Int} {S o n : Nat} {σ : St} {i : Int32} (P : SRC9 b S o n σ) (h : (o : Int) + n ≤ i.toInt) : (0 : Int32).toInt = b (i.toInt - o).toNat := by
  rw [P.2.2.2.2.2.2.2.1 _ (by omega)]; rfl
theorem lx_nx {P : Int → Bool} {b : Nat → Int} {n o r : Nat} {i j : Int} (h : lx_run P b n (i - o).toNat = r) (hj : j = i + 1) (hi : (o : Int) ≤ i) (h1 : i < o + n) (hP : P (b (i - o).toNat) = true) : lx_run P b n (j - o).toNat = r := by
  have e : (j - o).toNat = (i - o).toNat + 1 := by omega
  rw [e, lx_go (by omega) hP, h]
theorem lx_fin {P : Int → Bool} {b : Nat → Int} {n o r : Nat} {i : Int} (h : lx_run P b n (i - o).toNat = r) (hi : (o : Int) ≤ i) (hs : ¬ (i < o + n ∧ P (b (i - o).toNat) = true)) : i = o + r := by
  rw [lx_stop (fun q => hs ⟨by omega, q.2⟩)] at h
  omega
/-- the words that the class keeps -/
def WDS (σ : St) : Prop := ∀ w, w < 14 → (gl σ 19 w).toInt = lx_wl.getD w 0
theorem WDS_of {s s' : St} (e : ∀ k, gl s' 19 k = gl s 19 k) (h : WDS s) : WDS s' := fun w hw => by rw [e]; exact h w hw
def KND1 (b : Nat → Int) (n k : Nat) (σ : St) : Prop := (gi σ 20 k).toInt = lx_kc (lx_kind b n (lx_pos b n k)) (lx_val b n (lx_pos b n k)) ∧ (lx_kind b n (lx_pos b n k) = 2 → (gi σ 22 k).toInt % 1048576 = lx_val b n (lx_pos b n k)) ∧ (lx_kind b n (lx_pos b n k) = 3 ∨ lx_kind b n (lx_pos b n k) = 4 → (gl σ 23 k).toInt = lx_name b n (lx_pos b n k))
def KND (b : Nat → Int) (n m : Nat) (σ : St) : Prop := ∀ k, k < m → KND1 b n k σ
def SPT (b : Nat → Int) (n m : Nat) (σ : St) : Prop := ∀ k, k < m → (gi σ 21 k).toInt = lx_pos b n k
theorem KND_of {b : Nat → Int} {n m : Nat} {s s' : St} (e1 : ∀ k, gi s' 20 k = gi s 20 k) (e2 : ∀ k, gi s' 22 k = gi s 22 k) (e3 : ∀ k, gl s' 23 k = gl s 23 k) (h : KND b n m s) : KND b n m s' := fun k hk => by
  unfold KND1; rw [e1, e2, e3]; exact h k hk
theorem SPT_of {b : Nat → Int} {n m : Nat} {s s' : St} (e1 : ∀ k, gi s' 21 k = gi s 21 k) (h : SPT b n m s) : SPT b n m s' := fun k hk => by
  rw [e1]; exact h k hk
theorem spt_w {b : Nat → Int} {n m : Nat} {s s' : St} {v : Int32} (e : s' = si s 21 m v) (hv : v.toInt = lx_pos b n m) (h : SPT b n m s) : SPT b n (m + 1) s' := fun k hk => by
  subst e
  by_cases c : k = m
  · subst c; simpa [gi, si, up2] using hv
  · have := h k (by omega); simpa [gi, si, up2, c] using this
/-- the next one is laid, the earlier ones stay -/
theorem knd_add {b : Nat → Int} {n m : Nat} {s s' : St} (h : KND b n m s) (e1 : ∀ k, ¬ k = m → gi s' 20 k = gi s 20 k) (e2 : ∀ k, ¬ k = m → gi s' 22 k = gi s 22 k) (e3 : ∀ k, ¬ k = m → gl s' 23 k = gl s 23 k) (h1 : KND1 b n m s') : KND b n (m + 1) s' := fun k hk => by
  by_cases c : k = m
  · rw [c]; exact h1
  · unfold KND1; rw [e1 k c, e2 k c, e3 k c]; exact h k (by omega)
theorem lx_find_none {x : Int} : ∀ (l : List Int) (k : Int), (∀ j, j < l.length → ¬ l.getD j 0 = x) → lx_find x l k = 0
  | [], _, _ => rfl
  | a :: t, k, h => by
    simp only [lx_find]
    have h0 := h 0 (by simp)
    rw [if_neg (by simpa using h0)]
    exact lx_find_none t (k + 1) (fun j hj => by have := h (j + 1) (by simpa using hj); simpa using this)
theorem lx_find_some {x : Int} : ∀ (l : List Int) (k : Int) (j : Nat), j < l.length → l.getD j 0 = x → (∀ i, i < j → ¬ l.getD i 0 = x) → lx_find x l k = k + j
  | [], _, j, hj, _, _ => absurd hj (Nat.not_lt_zero j)
  | a :: t, k, 0, _, e, _ => by simp only [lx_find]; rw [if_pos (by simpa using e)]; simp
  | a :: t, k, j + 1, hj, e, h => by
    simp only [lx_find]
    have h0 := h 0 (by omega)
    rw [if_neg (by simpa using h0)]
    have := lx_find_some t (k + 1) j (by simpa using hj) (by simpa using e) (fun i hi => by have := h (i + 1) (by omega); simpa using this)
    rw [this]; push_cast; omega
/-- the loop over the words: the kind so far -/
def WK9 (N : Int) (w : Int) (kd : Int) : Prop := (kd = 1 ∧ ∀ j : Nat, (j : Int) < w → ¬ lx_wl.getD j 0 = N) ∨ (kd = 20 + lx_word N ∧ 0 < lx_word N)
theorem wk_0 {N : Int} {w kd : Int} (h : w ≤ 0) (hk : kd = 1) : WK9 N w kd := Or.inl ⟨hk, fun j hj => by omega⟩
theorem wk_ne {N : Int} {w w' kd : Int} (h : WK9 N w kd) (h0 : 0 ≤ w) (hw : w' = w + 1) (hk : kd = 1) (hn : ¬ lx_wl.getD w.toNat 0 = N) : WK9 N w' kd := by
  rcases h with ⟨a, c⟩ | ⟨a, c⟩
  · refine Or.inl ⟨a, fun j hj => ?_⟩
    by_cases e : (j : Int) < w
    · exact c j e
    · rw [show j = w.toNat from by omega]; exact hn
  · omega
theorem wk_eq {N : Int} {w w' kd kd' : Int} (h : WK9 N w kd) (h0 : 0 ≤ w) (h1 : w < 14) (hk : kd = 1) (he : lx_wl.getD w.toNat 0 = N) (hk' : kd' = 21 + w) : WK9 N w' kd' := by
  rcases h with ⟨a, c⟩ | ⟨a, c⟩
  · have : lx_word N = 1 + (w.toNat : Int) := lx_find_some lx_wl 1 w.toNat (by show w.toNat < 14; omega) he (fun i hi => c i (by omega))
    exact Or.inr ⟨by omega, by omega⟩
  · omega
theorem wk_end {N w kd : Int} (h : WK9 N w kd) (hw : 14 ≤ w ∨ ¬ kd = 1) : kd = lx_kc (if 0 < lx_word N then 4 else 3) (lx_word N) := by
  rcases h with ⟨a, c⟩ | ⟨a, c⟩
  · have : lx_word N = 0 := lx_find_none lx_wl 1 (fun j hj => c j (by have : j < 14 := hj; omega))
    rw [this]; simp [lx_kc]; omega
  · rw [if_pos c]; simp [lx_kc]; omega
theorem l_shlor {x y z : Int64} {v : Int32} (hx : x <<< ((8 : Int32).toInt64 &&& 63) = y) (hz : y ||| v.toInt64 = z) (x0 : 0 ≤ x.toInt) (x1 : 2 * x.toInt < 72057594037927936) (v0 : 0 ≤ v.toInt) (v1 : v.toInt < 256) : z.toInt = 256 * x.toInt + v.toInt := by
  subst hx hz
  have ex : x.toBitVec.toNat = x.toInt.toNat := by
    have h : x.toBitVec.toInt = x.toInt := rfl
    have c := BitVec.toInt_eq_toNat_cond x.toBitVec
    have l := x.toBitVec.isLt
    rw [h] at c
    split at c <;> omega
  have ev : v.toInt64.toBitVec.toNat = v.toInt.toNat := by
    have e1 : v.toInt64.toInt = v.toInt := Int32.toInt_toInt64 v
    have e2 : v.toInt64.toInt = v.toInt64.toBitVec.toInt := rfl
    rw [e2, BitVec.toInt_eq_toNat_cond] at e1
    split at e1 <;> omega
  have eS : (x <<< ((8 : Int32).toInt64 &&& 63)).toBitVec = x.toBitVec <<< 8 := by rfl
  have key : ((x.toBitVec <<< 8) ||| v.toInt64.toBitVec).toNat = 256 * x.toInt.toNat + v.toInt.toNat := by
    rw [BitVec.toNat_or, BitVec.toNat_shiftLeft, ex, ev]
    have a1 : x.toInt.toNat <<< 8 % 2 ^ 64 = x.toInt.toNat <<< 8 := by
      rw [Nat.shiftLeft_eq]; exact Nat.mod_eq_of_lt (by omega)
    rw [a1, ← Nat.shiftLeft_add_eq_or_of_lt (by omega : v.toInt.toNat < 2 ^ 8), Nat.shiftLeft_eq]
    omega
  show ((x <<< ((8 : Int32).toInt64 &&& 63)).toBitVec ||| v.toInt64.toBitVec).toInt = _
  rw [eS, BitVec.toInt_eq_toNat_cond, key, if_pos (by omega)]
  omega
theorem pow256 (k : Nat) (h : k ≤ 7) : (256 : Int) ^ k ≤ 72057594037927936 := by
  have : k = 0 ∨ k = 1 ∨ k = 2 ∨ k = 3 ∨ k = 4 ∨ k = 5 ∨ k = 6 ∨ k = 7 := by omega
  rcases this with q | q | q | q | q | q | q | q <;> subst q <;> decide
theorem lx_nm_step {b : Nat → Int} {n o : Nat} {x y z : Int64} {v : Int32} {fr i j : Int} (hz : y ||| v.toInt64 = z) (hx : x <<< ((8 : Int32).toInt64 &&& 63) = y) (hv : v.toInt = b (i - o).toNat) (hN : i - fr ≤ 8 → x.toInt = lx_nm b (fr - o).toNat (i - fr).toNat) (hr : lx_run lx_ld b n (i - o).toNat = lx_run lx_ld b n (fr - o).toNat) (hf : (o : Int) ≤ fr) (hi : fr ≤ i) (hl : lx_ld (b (i - o).toNat) = true) (hj : j = i + 1) : j - fr ≤ 8 → z.toInt = lx_nm b (fr - o).toNat (j - fr).toNat := fun h8 => by
  have hN' := hN (by omega)
  have e : (j - fr).toNat = (i - fr).toNat + 1 := by omega
  have e2 : (fr - o).toNat + (i - fr).toNat = (i - o).toNat := by omega
  have hb := lx_nm_bd b (fr - o).toNat (i - fr).toNat (fun q hq => by
    have a := lx_ge lx_ld b n (i - o).toNat
    have c := lx_ld_iff.mp (lx_in lx_ld b n (fr - o).toNat ((fr - o).toNat + q) (by omega) (by omega))
    omega)
  have hl' := lx_ld_iff.mp hl
  have hp : (256 : Int) ^ (i - fr).toNat ≤ 72057594037927936 := pow256 _ (by omega)
  have := l_shlor hx hz (by omega) (by omega) (by omega) (by omega)
  rw [this, e, lx_nm, e2, hN', hv]
theorem ld_l {c x : Int} (h : lx_le x = true) (e : x = c) : lx_ld c = true := by rw [← e, lx_ld, h]; rfl
theorem ld_d {c x : Int} (h : lx_dg x = true) (e : x = c) : lx_ld c = true := by rw [← e, lx_ld, h, Bool.or_true]
theorem ld_n {c x y : Int} (h : ¬ lx_le x = true) (g : ¬ lx_dg y = true) (e : x = c) (f : y = c) : ¬ lx_ld c = true := by
  subst e; subst f
  rw [lx_ld, Bool.or_eq_true]; exact fun q => q.elim h g
theorem wk_ne' {N w w' kd a : Int} (h : (kd = 3 ∧ 8 < a) ∨ (a ≤ 8 ∧ WK9 N w kd)) (h0 : 0 ≤ w) (hw : w' = w + 1) (hk : kd = 1) (hn : ¬ lx_wl.getD w.toNat 0 = N) : (kd = 3 ∧ 8 < a) ∨ (a ≤ 8 ∧ WK9 N w' kd) := by
  rcases h with c | c
  · exact Or.inl c
  · exact Or.inr ⟨c.1, wk_ne c.2 h0 hw hk hn⟩
theorem wk_eq' {N w w' kd kd' a : Int} (h : (kd = 3 ∧ 8 < a) ∨ (a ≤ 8 ∧ WK9 N w kd)) (h0 : 0 ≤ w) (h1 : w < 14) (hw : w' = w + 1) (hk : kd = 1) (he : lx_wl.getD w.toNat 0 = N) (hk' : kd' = 21 + w) : (kd' = 3 ∧ 8 < a) ∨ (a ≤ 8 ∧ WK9 N w' kd') := by
  rcases h with c | c
  · omega
  · exact Or.inr ⟨c.1, wk_eq c.2 h0 h1 hk he hk'⟩
theorem knd_word {b : Nat → Int} {n o kk k' : Nat} {s0 s1 s2 : St} {kd : Int32} {nm : Int64} {fr i w : Int} (e1 : s1 = si s0 20 k' kd) (e2 : s2 = sl s1 23 k' nm) (h : KND b n kk s0) (hk : k' = kk) (hp : lx_pos b n kk = (fr - o).toNat) (hl : lx_le (b (fr - o).toNat) = true) (hr : lx_run lx_ld b n (i - o).toNat = lx_run lx_ld b n (fr - o).toNat) (hN : i - fr ≤ 8 → nm.toInt = lx_nm b (fr - o).toNat (i - fr).toNat) (hw : (kd.toInt = 3 ∧ 8 < i - fr) ∨ (i - fr ≤ 8 ∧ WK9 nm.toInt w kd.toInt)) (hf : (o : Int) ≤ fr) (hi : fr ≤ i) (hs : ¬ (i < o + n ∧ lx_ld (b (i - o).toNat) = true)) (hend : 14 ≤ w ∨ ¬ kd.toInt = 1) : KND b n (kk + 1) s2 ∧ i = o + lx_end b n (lx_pos b n kk) := by
  subst hk
  have hE := lx_fin hr (by omega) hs
  have hE2 : lx_run lx_ld b n (fr - o).toNat - (fr - o).toNat = (i - fr).toNat := by omega
  have q : lx_end b n (lx_pos b n k') = lx_run lx_ld b n (fr - o).toNat := by rw [hp, lx_end, if_pos hl]
  refine ⟨knd_add h (fun k c => ?_) (fun k c => ?_) (fun k c => ?_) ?_, by rw [q]; exact hE⟩
  · rw [e2, e1]; simp [gi, si, sl, up2, c]
  · rw [e2, e1]; simp [gi, si, sl, up2]
  · rw [e2, e1]; simp [gl, si, sl, up2, c]
  · have g1 : gi s2 20 k' = kd := by rw [e2, e1]; simp [gi, si, sl, up2]
    have g3 : gl s2 23 k' = nm := by rw [e2]; simp [gl, sl, up2]
    unfold KND1
    rw [g1, g3]
    rcases hw with ⟨c1, c2⟩ | ⟨c1, c2⟩
    · have z : lx_kind b n (lx_pos b n k') = 1 := by rw [hp, lx_kind, if_pos hl, hE2, if_pos (by omega)]
      rw [z]
      exact ⟨by rw [c1]; simp [lx_kc], fun e => absurd e (by decide), fun e => absurd e (by decide)⟩
    · have c3 := hN c1
      have z : lx_kind b n (lx_pos b n k') = if 0 < lx_word nm.toInt then 4 else 3 := by rw [hp, lx_kind, if_pos hl, hE2, if_neg (by omega), ← c3]
      have z2 : lx_val b n (lx_pos b n k') = lx_word nm.toInt := by rw [hp, lx_val, if_pos hl, hE2, if_neg (by omega), ← c3]
      rw [z, z2]
      refine ⟨wk_end c2 hend, fun e => ?_, fun _ => ?_⟩
      · split at e <;> omega
      · rw [lx_name, q, hp, hE2]; exact c3
/-- digits -/
theorem lx_dec_step {b : Nat → Int} {n o : Nat} {x y1 y2 y3 v : Int32} {fr i j : Int} (h3 : y2 - 48 = y3) (h2 : y1 + v = y2) (h1 : x * 10 = y1) (hv : v.toInt = b (i - o).toNat) (hN : i - fr ≤ 6 → x.toInt = lx_dec b (fr - o).toNat (i - fr).toNat) (hr : lx_run lx_dg b n (i - o).toNat = lx_run lx_dg b n (fr - o).toNat) (hf : (o : Int) ≤ fr) (hi : fr ≤ i) (h6 : i - fr < 6) (hl : lx_dg (b (i - o).toNat) = true) (hj : j = i + 1) : j - fr ≤ 6 → y3.toInt = lx_dec b (fr - o).toNat (j - fr).toNat := fun h8 => by
  have hN' := hN (by omega)
  have e : (j - fr).toNat = (i - fr).toNat + 1 := by omega
  have e2 : (fr - o).toNat + (i - fr).toNat = (i - o).toNat := by omega
  have hb := lx_dec_bd b (fr - o).toNat (i - fr).toNat (fun q hq => by
    have a := lx_ge lx_dg b n (i - o).toNat
    exact lx_in lx_dg b n (fr - o).toNat ((fr - o).toNat + q) (by omega) (by omega))
  have hl' := lx_dg_iff.mp hl
  have hp : (10 : Int) ^ (i - fr).toNat ≤ 10 ^ 5 := by
    have := Nat.pow_le_pow_right (n := 10) (by decide) (show (i - fr).toNat ≤ 5 from by omega)
    exact_mod_cast this
  have t1 := i_mulT h1
  have t2 := i_addT h2
  have t3 := i_subT h3
  simp only [Int32.reduceToInt] at t1 t3
  rw [e, lx_dec, e2]
  omega
theorem dgv {c x : Int} (h : lx_dg x = true) (e : x = c) : lx_dg c = true := by rw [← e]; exact h
theorem or_shl20 {x y z w v : Int32} (h1 : w &&& 7 = y) (h2 : y <<< ((20 : Int32) &&& 31) = z) (h3 : x ||| z = v) (x0 : 0 ≤ x.toInt) (x1 : x.toInt < 1048576) : v.toInt % 1048576 = x.toInt := by
  subst h1 h2 h3
  have ex : x.toBitVec.toNat = x.toInt.toNat := by
    have h : x.toBitVec.toInt = x.toInt := rfl
    have c := BitVec.toInt_eq_toNat_cond x.toBitVec
    have l := x.toBitVec.isLt
    rw [h] at c
    split at c <;> omega
  have eS : (w &&& 7 <<< ((20 : Int32) &&& 31)) = (w &&& 7 <<< ((20 : Int32) &&& 31)) := rfl
  have eZ : ((w &&& 7) <<< ((20 : Int32) &&& 31)).toBitVec = (w &&& 7).toBitVec <<< 20 := rfl
  have e7 : (w &&& 7).toBitVec.toNat < 8 := by
    show (w.toBitVec &&& 7#32).toNat < 8
    rw [BitVec.toNat_and]
    exact Nat.lt_of_le_of_lt Nat.and_le_right (by decide)
  have key : (x.toBitVec ||| ((w &&& 7).toBitVec <<< 20)).toNat = (w &&& 7).toBitVec.toNat * 1048576 + x.toInt.toNat := by
    rw [BitVec.toNat_or, BitVec.toNat_shiftLeft, ex]
    have a1 : (w &&& 7).toBitVec.toNat <<< 20 % 2 ^ 32 = (w &&& 7).toBitVec.toNat <<< 20 := by
      rw [Nat.shiftLeft_eq]; exact Nat.mod_eq_of_lt (by omega)
    rw [a1, Nat.or_comm, ← Nat.shiftLeft_add_eq_or_of_lt (by omega : x.toInt.toNat < 2 ^ 20), Nat.shiftLeft_eq]
  show (x.toBitVec ||| ((w &&& 7) <<< ((20 : Int32) &&& 31)).toBitVec).toInt % 1048576 = _
  rw [eZ, BitVec.toInt_eq_toNat_cond, key, if_pos (by omega)]
  omega
theorem knd_digits {b : Nat → Int} {n o kk k' : Nat} {s0 s1 s2 : St} {kd nb x y z w : Int32} {fr i : Int} (e1 : s1 = si s0 20 k' kd) (e2 : s2 = si s1 22 k' nb) (h : KND b n kk s0) (hk : k' = kk) (hp : lx_pos b n kk = (fr - o).toNat) (hl : lx_dg (b (fr - o).toNat) = true) (hr : lx_run lx_dg b n (i - o).toNat = lx_run lx_dg b n (fr - o).toNat) (hN : i - fr ≤ 6 → x.toInt = lx_dec b (fr - o).toNat (i - fr).toNat) (h3 : x ||| z = nb) (h2 : y <<< ((20 : Int32) &&& 31) = z) (h1 : w &&& 7 = y) (hf : (o : Int) ≤ fr) (hi : fr ≤ i) (hs : ¬ (i < o + n ∧ lx_dg (b (i - o).toNat) = true)) (hend : (kd.toInt = 2 ∧ i - fr ≤ 6 ∧ ¬ lx_le (b (i - o).toNat) = true) ∨ (kd.toInt = 3 ∧ (6 < i - fr ∨ lx_le (b (i - o).toNat) = true))) : KND b n (kk + 1) s2 ∧ i = o + lx_end b n (lx_pos b n kk) := by
  subst hk
  have hE := lx_fin hr (by omega) hs
  have hE2 : lx_run lx_dg b n (fr - o).toNat - (fr - o).toNat = (i - fr).toNat := by omega
  have hE3 : lx_run lx_dg b n (fr - o).toNat = (i - o).toNat := by omega
  have hnl : ¬ lx_le (b (fr - o).toNat) = true := fun q => by
    have a := lx_le_iff.mp q
    have c := lx_dg_iff.mp hl
    omega
  have q : lx_end b n (lx_pos b n k') = lx_run lx_dg b n (fr - o).toNat := by rw [hp, lx_end, if_neg hnl, if_pos hl]
  refine ⟨knd_add h (fun k c => ?_) (fun k c => ?_) (fun k c => ?_) ?_, by rw [q]; exact hE⟩
  · rw [e2, e1]; simp [gi, si, up2, c]
  · rw [e2, e1]; simp [gi, si, up2, c]
  · rw [e2, e1]; simp [gl, si]
  · have g1 : gi s2 20 k' = kd := by rw [e2, e1]; simp [gi, si, up2]
    have g3 : gi s2 22 k' = nb := by rw [e2]; simp [gi, si, up2]
    unfold KND1
    rw [g1, g3]
    rcases hend with ⟨c1, c2, c3⟩ | ⟨c1, c2⟩
    · have z : lx_kind b n (lx_pos b n k') = 2 := by
        rw [hp, lx_kind, if_neg hnl, if_pos hl, hE2, hE3, if_neg (fun g => g.elim (by omega) c3)]
      have z2 : lx_val b n (lx_pos b n k') = lx_dec b (fr - o).toNat (i - fr).toNat := by rw [hp, lx_val, if_neg hnl, if_pos hl, hE2]
      have hb := lx_dec_bd b (fr - o).toNat (i - fr).toNat (fun q hq => by
        exact lx_in lx_dg b n (fr - o).toNat ((fr - o).toNat + q) (by omega) (by omega))
      have hp : (10 : Int) ^ (i - fr).toNat ≤ 10 ^ 6 := by
        have := Nat.pow_le_pow_right (n := 10) (by decide) (show (i - fr).toNat ≤ 6 from by omega)
        exact_mod_cast this
      have hx := hN c2
      rw [z, z2]
      exact ⟨by rw [c1]; simp [lx_kc], fun _ => by rw [or_shl20 h1 h2 h3 (by omega) (by omega)]; exact hx, fun e => absurd e (by decide)⟩
    · have z : lx_kind b n (lx_pos b n k') = 1 := by
        rw [hp, lx_kind, if_neg hnl, if_pos hl, hE2, hE3, if_pos (c2.imp (fun g => by omega) id)]
      rw [z]
      exact ⟨by rw [c1]; simp [lx_kc], fun e => absurd e (by decide), fun e => absurd e (by decide)⟩
/-- signs: the class looks for them in two rows of bytes, from the last one on -/
def lx_F : List Int := [40, 41, 91, 93, 44, 59, 61, 43, 45, 42, 60, 62, 60, 62, 33, 45, 61]
def lx_S : List Int := [32, 32, 32, 32, 32, 32, 32, 32, 32, 32, 32, 32, 61, 61, 61, 62, 61]
def lx_hit (c d : Int) (s : Nat) : Prop := (s < 12 ∨ d = lx_S.getD s 0) ∧ c = lx_F.getD s 0
def SG9 (c d s kd : Int) : Prop := (kd = 3 ∧ ∀ t : Nat, s < (t : Int) → t ≤ 16 → ¬ lx_hit c d t) ∨ ∃ t : Nat, t ≤ 16 ∧ s < (t : Int) ∧ kd = 4 + t ∧ lx_hit c d t ∧ ∀ u : Nat, (t : Int) < u → u ≤ 16 → ¬ lx_hit c d u
theorem sg_0 {c d s kd : Int} (h : s = 16) (hk : kd = 3) : SG9 c d s kd := Or.inl ⟨hk, fun t h1 h2 => by omega⟩
theorem sg_ne {c d s s' kd : Int} (h : SG9 c d s kd) (hk : kd = 3) (hs : s' = s - 1) (h0 : 0 ≤ s) (hn : ¬ lx_hit c d s.toNat) : SG9 c d s' kd := by
  rcases h with ⟨a, g⟩ | ⟨t, t1, t2, t3, -⟩
  · refine Or.inl ⟨a, fun t h1 h2 => ?_⟩
    by_cases e : s < (t : Int)
    · exact g t e h2
    · rw [show t = s.toNat from by omega]; exact hn
  · omega
theorem sg_eq {c d s s' kd kd' : Int} (h : SG9 c d s kd) (hk : kd = 3) (hs : s' = s - 1) (h0 : 0 ≤ s) (h16 : s ≤ 16) (hn : lx_hit c d s.toNat) (hk' : kd' = 4 + s) : SG9 c d s' kd' := by
  rcases h with ⟨a, g⟩ | ⟨t, t1, t2, t3, -⟩
  · exact Or.inr ⟨s.toNat, by omega, by omega, by omega, hn, fun u h1 h2 => g u (by omega) h2⟩
  · omega
theorem sg_end {c d s kd : Int} (h : SG9 c d s kd) (hs : s < 0 ∨ ¬ kd = 3) : kd = lx_kc (if 0 < lx_two c d then 5 else if 0 < lx_one c then 5 else 1) (if 0 < lx_two c d then lx_two c d else lx_one c) ∧ (16 ≤ kd ↔ 0 < lx_two c d) := by
  rcases h with ⟨a, g⟩ | ⟨t, t1, t2, t3, t4, g⟩
  · have hs' : s < 0 := by omega
    have g0 := g 0 (by omega) (by decide); have g1 := g 1 (by omega) (by decide); have g2 := g 2 (by omega) (by decide); have g3 := g 3 (by omega) (by decide)
    have g4 := g 4 (by omega) (by decide); have g5 := g 5 (by omega) (by decide); have g6 := g 6 (by omega) (by decide); have g7 := g 7 (by omega) (by decide)
    have g8 := g 8 (by omega) (by decide); have g9 := g 9 (by omega) (by decide); have ga := g 10 (by omega) (by decide); have gb := g 11 (by omega) (by decide)
    have gc := g 14 (by omega) (by decide)
    simp [lx_hit, lx_F, lx_S] at g0 g1 g2 g3 g4 g5 g6 g7 g8 g9 ga gb gc
    have o1 : lx_one c = 0 := by simp [lx_one, *]
    have o2 : lx_two c d = 0 := by
      simp only [lx_two]
      (repeat' split) <;> first | rfl | omega
    rw [o1, o2]
    refine ⟨by rw [a]; simp [lx_kc], by omega⟩
  · have key : ∀ (t : Nat), t ≤ 16 → t = 0 ∨ t = 1 ∨ t = 2 ∨ t = 3 ∨ t = 4 ∨ t = 5 ∨ t = 6 ∨ t = 7 ∨ t = 8 ∨ t = 9 ∨ t = 10 ∨ t = 11 ∨ t = 12 ∨ t = 13 ∨ t = 14 ∨ t = 15 ∨ t = 16 := fun t h => by omega
    have gc := fun h => g 12 h (by decide)
    have gd := fun h => g 13 h (by decide)
    have ge := fun h => g 15 h (by decide)
    have gf := fun h => g 16 h (by decide)
    simp only [lx_hit, lx_F, lx_S] at t4 gc gd ge gf
    rcases key t t1 with q | q | q | q | q | q | q | q | q | q | q | q | q | q | q | q | q <;> subst q <;> simp at t4 gc gd ge gf t3 <;> first | (simp [lx_two, lx_one, lx_kc, *]; done) | (have z : ¬ d = 61 := fun q => absurd t4 (gf q); simp [lx_two, lx_one, lx_kc, z, *]; done) | (have z : ¬ d = 61 := fun q => absurd t4 (gc q); simp [lx_two, lx_one, lx_kc, z, *]; done) | (have z : ¬ d = 61 := fun q => absurd t4 (gd q); simp [lx_two, lx_one, lx_kc, z, *]; done) | (have z : ¬ d = 62 := fun q => absurd t4 (ge q); simp [lx_two, lx_one, lx_kc, z, *]; done)
theorem knd_sign {b : Nat → Int} {n o kk k' : Nat} {s0 s1 : St} {kd : Int32} {fr s : Int} (e1 : s1 = si s0 20 k' kd) (h : KND b n kk s0) (hk : k' = kk) (hp : lx_pos b n kk = (fr - o).toNat) (hf : (o : Int) ≤ fr) (hl : ¬ lx_le (b (fr - o).toNat) = true) (hd : ¬ lx_dg (b (fr - o).toNat) = true) (hw : SG9 (b (fr - o).toNat) (b (fr + 1 - o).toNat) s kd.toInt) (hend : s < 0 ∨ ¬ kd.toInt = 3) : KND b n (kk + 1) s1 ∧ fr + (if 16 ≤ kd.toInt then 2 else 1) = o + lx_end b n (lx_pos b n kk) := by
  subst hk
  have e0 : (fr + 1 - o).toNat = (fr - o).toNat + 1 := by omega
  rw [e0] at hw
  have hz := sg_end hw hend
  refine ⟨knd_add h (fun k c => ?_) (fun k c => ?_) (fun k c => ?_) ?_, ?_⟩
  · rw [e1]; simp [gi, si, up2, c]
  · rw [e1]; simp [gi, si, up2]
  · rw [e1]; simp [gl, si]
  · have g1 : gi s1 20 k' = kd := by rw [e1]; simp [gi, si, up2]
    have z : lx_kind b n (lx_pos b n k') = if 0 < lx_two (b (fr - o).toNat) (b ((fr - o).toNat + 1)) then 5 else if 0 < lx_one (b (fr - o).toNat) then 5 else 1 := by rw [hp, lx_kind, if_neg hl, if_neg hd]
    have z2 : lx_val b n (lx_pos b n k') = if 0 < lx_two (b (fr - o).toNat) (b ((fr - o).toNat + 1)) then lx_two (b (fr - o).toNat) (b ((fr - o).toNat + 1)) else lx_one (b (fr - o).toNat) := by rw [hp, lx_val, if_neg hl, if_neg hd]
    unfold KND1
    rw [g1, z, z2]
    refine ⟨hz.1, fun e => ?_, fun e => ?_⟩
    · split at e
      · omega
      · split at e <;> omega
    · split at e
      · omega
      · split at e <;> omega
  · rw [hp, lx_end, if_neg hl, if_neg hd]
    by_cases c : 0 < lx_two (b (fr - o).toNat) (b ((fr - o).toNat + 1))
    · rw [if_pos c, if_pos (hz.2.mpr c)]; push_cast; omega
    · rw [if_neg c, if_neg (fun q => c (hz.2.mp q))]; push_cast; omega
/-- tokens laid so far, and where the next one begins -/
def LXI (b : Nat → Int) (n o k : Nat) (i : Int) : Prop := (∀ j, j < k → lx_pos b n j < n) ∧ (∀ j, j + 1 < k → ¬ lx_kind b n (lx_pos b n j) = 1) ∧ ((i = o + n ∧ 0 < k ∧ lx_kind b n (lx_pos b n (k - 1)) = 1) ∨ (i = o + lx_pos b n k ∧ ∀ j, j + 1 = k → ¬ lx_kind b n (lx_pos b n j) = 1))
theorem lxi_0 {b : Nat → Int} {n o k j : Nat} {i : Int} (hk : k = 0) (hj : j = 0) (h : i = o + lx_run lx_bl b n j) : LXI b n o k i := by
  subst hk; subst hj
  exact ⟨fun j hj => absurd hj (Nat.not_lt_zero j), fun j hj => absurd hj (Nat.not_lt_zero _), Or.inr ⟨h, fun j hj => by omega⟩⟩
theorem lxi_at {b : Nat → Int} {n o k : Nat} {i : Int} (h : LXI b n o k i) (hi : i < o + n) : i = o + lx_pos b n k ∧ lx_pos b n k < n := by
  rcases h.2.2 with c | c
  · omega
  · exact ⟨c.1, by omega⟩
theorem lxi_add {b : Nat → Int} {n o k k' : Nat} {i i' : Int} (h : LXI b n o k i) (hi : i < o + n) (hk : k' = k + 1) (h' : (lx_kind b n (lx_pos b n k) = 1 ∧ i' = o + n) ∨ (¬ lx_kind b n (lx_pos b n k) = 1 ∧ i' = o + lx_run lx_bl b n (lx_end b n (lx_pos b n k)))) : LXI b n o k' i' := by
  subst hk
  have ha := lxi_at h hi
  refine ⟨fun j hj => ?_, fun j hj => ?_, ?_⟩
  · by_cases c : j = k
    · rw [c]; exact ha.2
    · exact h.1 j (by omega)
  · by_cases c : j + 1 = k
    · rcases h.2.2 with q | q
      · omega
      · exact q.2 j c
    · exact h.2.1 j (by omega)
  · rcases h' with c | c
    · exact Or.inl ⟨c.2, by omega, by simpa using c.1⟩
    · refine Or.inr ⟨c.2, fun j hj => ?_⟩
      rw [show j = k from by omega]; exact c.1
theorem lx_end_gt (b : Nat → Int) {n p : Nat} (h : p < n) : p < lx_end b n p := by
  unfold lx_end
  split
  · rename_i c
    have : lx_ld (b p) = true := by rw [lx_ld, c]; rfl
    have a := lx_ge lx_ld b n (p + 1)
    rw [lx_go h this] at a
    omega
  · split
    · rename_i c
      have a := lx_ge lx_dg b n (p + 1)
      rw [lx_go h c] at a
      omega
    · split <;> omega
theorem lx_pos_ge (b : Nat → Int) (n : Nat) : ∀ k, (∀ j, j < k → lx_pos b n j < n) → k ≤ lx_pos b n k
  | 0, _ => Nat.zero_le _
  | k + 1, h => by
    have a := lx_pos_ge b n k (fun j hj => h j (by omega))
    have c := lx_end_gt b (h k (by omega))
    have d := lx_ge lx_bl b n (lx_end b n (lx_pos b n k))
    simp only [lx_pos]
    omega
theorem lxi_end {b : Nat → Int} {n o k : Nat} {i : Int} (h : LXI b n o k i) (hn : n ≤ 2000) (hi : (o : Int) + n ≤ i ∨ 2000 ≤ k) : LXM b n k := by
  refine ⟨h.1, h.2.1, ?_⟩
  rcases h.2.2 with c | c
  · exact Or.inr ⟨c.2.1, c.2.2⟩
  · refine Or.inl ?_
    rcases hi with q | q
    · omega
    · have := lx_pos_ge b n k h.1; omega
theorem lx_find_bd (x : Int) : ∀ (l : List Int) (k : Int), 1 ≤ k → 0 ≤ lx_find x l k ∧ lx_find x l k < k + l.length
  | [], k, h => by simp [lx_find]; omega
  | a :: t, k, h => by
    simp only [lx_find, List.length_cons]
    split
    · push_cast; omega
    · have := lx_find_bd x t (k + 1) (by omega); push_cast; omega
theorem lx_kc_bad (b : Nat → Int) (n p : Nat) : lx_kc (lx_kind b n p) (lx_val b n p) = 3 ↔ lx_kind b n p = 1 := by
  unfold lx_kind lx_val
  split
  · split
    · simp [lx_kc]
    · have := lx_find_bd (lx_nm b p (lx_run lx_ld b n p - p)) lx_wl 1 (by decide)
      split
      · simp [lx_kc, lx_word] at *; omega
      · simp [lx_kc]
  · split
    · split <;> simp [lx_kc]
    · split
      · simp [lx_kc]; omega
      · split
        · simp [lx_kc]; omega
        · simp [lx_kc]
/-- what stands in the lexer behind a scan -/
def TOKC (b : Nat → Int) (n m : Nat) (σ : St) : Prop := LXM b n m ∧ m ≤ 2000 ∧ (gi σ 18 5).toInt = m ∧ KND b n m σ ∧ SPT b n m σ ∧ (gi σ 20 m).toInt = 0 ∧ (gi σ 21 m).toInt = n
theorem tokc_end {b : Nat → Int} {n o m k1 k2 : Nat} {s0 s1 s2 : St} {v w : Int32} {i : Int} (e1 : s1 = si s0 20 k1 v) (e2 : s2 = si s1 21 k2 w) (h1 : k1 = m) (h2 : k2 = m) (hv : v.toInt = 0) (hw : w.toInt = n) (hm : m ≤ 2000) (hs : (gi s0 18 5).toInt = m) (K : KND b n m s0) (S : SPT b n m s0) (L : LXI b n o m i) (hn : n ≤ 2000) (hi : (o : Int) + n ≤ i ∨ 2000 ≤ m) : TOKC b n m s2 := by
  subst h1; subst h2
  refine ⟨lxi_end L hn hi, hm, ?_, fun k hk => ?_, fun k hk => ?_, ?_, ?_⟩
  · rw [e2, e1]; simpa [gi, si, up2] using hs
  · have c : ¬ k = k2 := by omega
    have a1 : gi s2 20 k = gi s0 20 k := by rw [e2, e1]; simp [gi, si, up2, c]
    have a2 : gi s2 22 k = gi s0 22 k := by rw [e2, e1]; simp [gi, si, up2]
    have a3 : gl s2 23 k = gl s0 23 k := by rw [e2, e1]; rfl
    unfold KND1; rw [a1, a2, a3]; exact K k hk
  · have c : ¬ k = k2 := by omega
    have a1 : gi s2 21 k = gi s0 21 k := by rw [e2, e1]; simp [gi, si, up2, c]
    rw [a1]; exact S k hk
  · rw [e2, e1]; simpa [gi, si, up2] using hv
  · rw [e2]; simpa [gi, si, up2] using hw
theorem src_mk {b : Nat → Int} {S o n L : Nat} {σ s : St} (e1 : gr s 18 6 = S) (e2 : (gi s 18 7).toInt = o) (e3 : (gi s 18 8).toInt = o + n) (e4 : ∀ k, gy s S k = gy σ S k) (hn : n ≤ 2000) (h5 : o + n ≤ L) (hL : (S = 1 ∧ L = 2000) ∨ (S = 6 ∧ L = 24800)) (h6 : ∀ j : Nat, j < n → (gy σ S (o + j)).toInt % 256 = b j) (h7 : ∀ j : Nat, n ≤ j → b j = 0) : SRC9 b S o n s :=
  ⟨e1, e2, e3, hn, fun h => by omega, fun h => by omega, fun j hj => by rw [e4]; exact h6 j hj, h7, by omega⟩
theorem lev {c x : Int} (h : lx_le x = true) (e : x = c) : lx_le c = true := by rw [← e]; exact h
theorem len {c x : Int} (h : ¬ lx_le x = true) (e : x = c) : ¬ lx_le c = true := by rw [← e]; exact h
theorem lx_end_le (b : Nat → Int) {n p : Nat} (hz : ∀ j : Nat, n ≤ j → b j = 0) (h : p < n) : lx_end b n p ≤ n := by
  unfold lx_end
  split
  · exact lx_up lx_ld b (Nat.le_of_lt h)
  · split
    · exact lx_up lx_dg b (Nat.le_of_lt h)
    · split
      · rename_i c
        by_cases q : p + 1 < n
        · omega
        · have e := hz (p + 1) (by omega)
          rw [e] at c
          simp [lx_two] at c
      · omega
theorem tk_kind {b : Nat → Int} {n k : Nat} {s : St} {v : Int32} (K : KND b n (k + 1) s) (e : gi s 20 k = v) : (v.toInt = 3 ∧ lx_kind b n (lx_pos b n k) = 1) ∨ (¬ v.toInt = 3 ∧ ¬ lx_kind b n (lx_pos b n k) = 1) := by
  have a := (K k (by omega)).1
  rw [e] at a
  have c := lx_kc_bad b n (lx_pos b n k)
  rw [← a] at c
  by_cases q : v.toInt = 3
  · exact Or.inl ⟨q, c.mp q⟩
  · exact Or.inr ⟨q, fun g => q (c.mpr g)⟩
theorem src_top {b : Nat → Int} {S o n : Nat} {σ : St} (P : SRC9 b S o n σ) : o + n ≤ 24800 := by
  rcases P.2.2.2.2.2.2.2.2 with c | c
  · have := P.2.2.2.2.1 c; omega
  · exact P.2.2.2.2.2.1 c
theorem i_andK {P : Prop} {x y v : Int32} (h : x &&& y = v) (g1 : 0 ≤ y.toInt) (k : 0 ≤ v.toInt ∧ v.toInt ≤ y.toInt → P) : P := k ((i_andT h).1 g1)
theorem lx_S9 (k : Nat) (h : k < 17) : (kq_16.2.2.2.2.2.getD k 0).toInt = lx_S.getD k 0 := by
  have key : ∀ k : Fin 17, (kq_16.2.2.2.2.2.getD k.1 0).toInt = lx_S.getD k.1 0 := by decide +kernel
  exact key ⟨k, h⟩
theorem lx_F9 (k : Nat) (h : k < 17) : (kq_17.2.2.2.2.2.getD k 0).toInt = lx_F.getD k 0 := by
  have key : ∀ k : Fin 17, (kq_17.2.2.2.2.2.getD k.1 0).toInt = lx_F.getD k.1 0 := by decide +kernel
  exact key ⟨k, h⟩
theorem dgn {c x : Int} (h : ¬ lx_dg x = true) (e : x = c) : ¬ lx_dg c = true := by rw [← e]; exact h
