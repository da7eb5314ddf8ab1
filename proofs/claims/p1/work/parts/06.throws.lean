-- methods that throw, and those that catch
theorem k_metH {l : Launch} {y : MethodName} {ws ws' : List Cond} {rm : Room} {Pc : Array Value → State → Prop} {Qc : Array Value → State → Outcome → State → Prop} {mc ms : Nat} {free : Addr → Prop} {cc : ByteArray} {maxL : Nat} {ret : Option FieldType} {hh : List (Nat × Nat × Nat × Nat)}
    (hy : plainName y.cls = true) (hw : ws = Cond.codeWith y cc maxL ret hh :: ws')
    (body : ∀ p e s m args below meth c s₁, BodyLoose p l y (headSpec ws rm) cc maxL ret e s m args below meth c s₁ → c.maxLocals = maxL → Pc args s →
      W p l e (headSpec ws rm).room s m args below meth c s.heap [] 0 0 (MQ below Qc args s mc ms free) (entryFrame m args maxL)) : Met l y ws rm Pc Qc mc ms free := by
  refine MetFree.of_bodyS (code := cc) (maxLocals := maxL) (ret := ret) hy ?_ ?_
  · intro args s m h hn
    obtain ⟨m9, meth, c, hn9, h1, h2, h3, h4, -, h5, h6, -⟩ := Cond.codeWith_spec (atoms_spec (ws := ws) h _ (by rw [hw]; exact List.mem_cons_self))
    cases hn.symm.trans hn9
    exact ⟨meth, c, h1, h2, h3, h4, h5, h6⟩
  · intro p e s m args below meth c s₁ B hml hP _
    have hh0 : s₁.heap = s.heap := by rw [B.state]; rfl
    obtain ⟨t, a1, o, b1, b2, b3⟩ := body p e s m args below meth c s₁ B hml hP s₁ hh0 (Stand.of_body B)
    exact ⟨t, o, a1, b1, b2, b3⟩
/-- where a method has thrown: of which class, the world as it was -/
def kTX (D : va_G) (tys : List (ClassId × FieldType)) (A : Nat → Prop) (w : va_W) (cls : String) : String → State → State → Prop := vx_X (fun (_ : Unit) => True) (fun E' _ t => E' = cls ∧ va_P D vwCl w t.heap ∧ va_K D vwCl tys t ∧ va_D A w) A
def kTI (l : Launch) (E : kE) (D : va_G) (tys : List (ClassId × FieldType)) (y : MethodName) (ws : List Cond) (rm : Room) (av : List Value) (w : va_W) (cls : String) (mc ms : Nat) : Prop := ∀ sz, vx_Met l y ws rm (kPc E D tys av sz w) (va_Qi (fun _ (_ : Unit) => False) (kB D tys (va_A w sz) (fun _ => w)) (va_A w sz)) (kTX D tys (va_A w sz) w cls) mc ms (va_A w sz)
def kTJ (l : Launch) (E : kE) (D : va_G) (tys : List (ClassId × FieldType)) (y : MethodName) (ws : List Cond) (rm : Room) (av : List Value) (w : va_W) (cls : String) (mc ms : Nat) : Prop := ∀ sz, vx_Met l y ws rm (kPc E D tys av sz w) (va_Ql (fun _ (_ : Unit) => False) (kB D tys (va_A w sz) (fun _ => w)) (va_A w sz)) (kTX D tys (va_A w sz) w cls) mc ms (va_A w sz)
def kTV (l : Launch) (E : kE) (D : va_G) (tys : List (ClassId × FieldType)) (y : MethodName) (ws : List Cond) (rm : Room) (av : List Value) (w : va_W) (cls : String) (mc ms : Nat) : Prop := ∀ sz, vx_Met l y ws rm (kPc E D tys av sz w) (va_Qv (fun (_ : Unit) => False) (kB D tys (va_A w sz) (fun _ => w)) (va_A w sz)) (kTX D tys (va_A w sz) w cls) mc ms (va_A w sz)
theorem k_tx {D : va_G} {tys : List (ClassId × FieldType)} {A : Nat → Prop} {w : va_W} {cls : String} {s : State} {H : Heap} {locs : List Loc} (hP : va_P D vwCl w H) (hK : va_K D vwCl tys s) (hD : va_D A w) (hS : va_S A s.heap H locs) (t : State) (hvm : s.vm.Alike t.vm) (h1 : H.size ≤ t.heap.size) (h2 : ∀ q : Nat, q < H.size → t.heap[q]? = H[q]?) : kTX D tys A w cls cls s t :=
  ⟨(), trivial, ⟨rfl, hP.kept (fun k x hx => h2 x.1 (hP k x hx).lt), va_K.moved hvm hK, hD⟩, Nat.le_trans hS.1 h1, fun q z1 z2 => (h2 q (Nat.lt_of_lt_of_le z1 hS.1)).trans (hS.2.1 q z1 z2)⟩
section KX
variable {p : Program} {l : Launch} {e : Env} {R : Room} {s : State} {m : MethodId} {args : Array Value} {below : List Frame} {meth : Method} {c : Code} {H : Heap} {locs : List Loc} {cells slots : Nat} {Q : State → Prop}
variable {cc bytes : ByteArray} {pc nL maxL index n mc ms : Nat} {ls : Array Slot} {rest As : List Value} {D : va_G} {A : Nat → Prop} {tys : List (ClassId × FieldType)} {ws wc wr : va_W} {own C cls : String} {Ts wy : List Cond} {y : MethodName} {rm : Room} {ret : Option FieldType} {b : Nat}
theorem k_cTi (S : CallFix p m c cc nL s args Ts own) {E : kE} (hN : kN s) (hX : kX E s) (hAE : ∀ q, A q → E.1 ≤ q) (hK : va_K D vwCl tys s) (hP : va_P D vwCl ws H) (hD : va_D A ws) (hS : va_S A s.heap H locs) (hA : ∀ q, s.heap.size ≤ q → A q) (isC isR : List Nat) {ci : Nat} {fs : List Value} {q : vw_C} (hc : vwCl[ci]? = some q) (hC : isC.map (fun i => ws[i]?) = wc.map some) (hq0 : wc[0]? = some (b, .inr (ci, fs))) (hR : isR.map (fun i => ws[i]?) = wr.map some) (hnc : va_nd isC = true) (hn : va_nd isR = true) (hdis : ∀ i ∈ isR, i ∉ isC)
    (hM : kTI l E D tys y wy rm (.ref b :: As) wc cls mc ms) (cw : CallW R s args own q.1 index y bytes maxL ret wy rm mc ms n) (hlen : As.length = n) (hsize : ls.size = nL) (hW : (rest.map fun v => v.category).sum ≤ 8) (hdg : decode cc pc = .ok (.invokevirtual index, 3)) (hf : cells + mc ≤ R.cells ∧ slots + ms ≤ R.slots)
    (kk : ∀ (q9 : Addr) (ce : Cell) (H1 : Heap) (locs1 : List Loc), va_P D vwCl (wr ++ wc) H1 → va_D A (wr ++ wc) → va_S A s.heap H1 locs1 → H1[q9]? = some ce → ce.vm = .none → s.vm.findClass cls = some ce.cls → vx_W p l e R s m args below meth c H1 locs1 (cells + mc) (slots + ms) Q (F0 m pc ls rest) q9) : W p l e R s m args below meth c H locs cells slots Q (F0 m pc ls (As.reverse ++ .ref b :: rest)) := by
  obtain ⟨h1, h2⟩ := k_pre hN hX hAE hK hP hD hS isC hC hnc (.ref b :: As)
  refine vx_calli (vx_runV (As := As) (rest := rest) S (hM H.size) cw ⟨h1, va_recv hK (k_cut hP isC hC) hc hq0, h2⟩ rfl hlen hsize rfl (lv_room hW) hdg hf) hS (fun q _ h => va_free hD hS hA isC hC q h) (va_free hD hS hA isC hC) (fun q _ h => va_free hD hS hA isC hC q h) (fun E' ce q9 u t H1 locs1 ht hvm hp hB hz1 hk1 hS1 hce hcv hcl => ?_) (fun r u t H1 locs1 ht hvm hw hB hz1 hk1 hS1 => hw.elim)
  obtain ⟨rfl, hP1, -, hD1⟩ := hB
  rw [ht] at hP1
  obtain ⟨g1, g2⟩ := k_after hP hD hS hA isC isR hC hR hn hdis hk1 hP1 hD1
  exact kk q9 ce H1 locs1 g1 g2 hS1 hce hcv hcl
theorem k_cTl (S : CallFix p m c cc nL s args Ts own) {E : kE} (hN : kN s) (hX : kX E s) (hAE : ∀ q, A q → E.1 ≤ q) (hK : va_K D vwCl tys s) (hP : va_P D vwCl ws H) (hD : va_D A ws) (hS : va_S A s.heap H locs) (hA : ∀ q, s.heap.size ≤ q → A q) (isC isR : List Nat) {ci : Nat} {fs : List Value} {q : vw_C} (hc : vwCl[ci]? = some q) (hC : isC.map (fun i => ws[i]?) = wc.map some) (hq0 : wc[0]? = some (b, .inr (ci, fs))) (hR : isR.map (fun i => ws[i]?) = wr.map some) (hnc : va_nd isC = true) (hn : va_nd isR = true) (hdis : ∀ i ∈ isR, i ∉ isC)
    (hM : kTJ l E D tys y wy rm (.ref b :: As) wc cls mc ms) (cw : CallW R s args own q.1 index y bytes maxL ret wy rm mc ms n) (hlen : As.length = n) (hsize : ls.size = nL) (hW : (rest.map fun v => v.category).sum ≤ 8) (hdg : decode cc pc = .ok (.invokevirtual index, 3)) (hf : cells + mc ≤ R.cells ∧ slots + ms ≤ R.slots)
    (kk : ∀ (q9 : Addr) (ce : Cell) (H1 : Heap) (locs1 : List Loc), va_P D vwCl (wr ++ wc) H1 → va_D A (wr ++ wc) → va_S A s.heap H1 locs1 → H1[q9]? = some ce → ce.vm = .none → s.vm.findClass cls = some ce.cls → vx_W p l e R s m args below meth c H1 locs1 (cells + mc) (slots + ms) Q (F0 m pc ls rest) q9) : W p l e R s m args below meth c H locs cells slots Q (F0 m pc ls (As.reverse ++ .ref b :: rest)) := by
  obtain ⟨h1, h2⟩ := k_pre hN hX hAE hK hP hD hS isC hC hnc (.ref b :: As)
  refine vx_calll (vx_runV (As := As) (rest := rest) S (hM H.size) cw ⟨h1, va_recv hK (k_cut hP isC hC) hc hq0, h2⟩ rfl hlen hsize rfl (lv_room hW) hdg hf) hS (fun q _ h => va_free hD hS hA isC hC q h) (va_free hD hS hA isC hC) (fun q _ h => va_free hD hS hA isC hC q h) (fun E' ce q9 u t H1 locs1 ht hvm hp hB hz1 hk1 hS1 hce hcv hcl => ?_) (fun r u t H1 locs1 ht hvm hw hB hz1 hk1 hS1 => hw.elim)
  obtain ⟨rfl, hP1, -, hD1⟩ := hB
  rw [ht] at hP1
  obtain ⟨g1, g2⟩ := k_after hP hD hS hA isC isR hC hR hn hdis hk1 hP1 hD1
  exact kk q9 ce H1 locs1 g1 g2 hS1 hce hcv hcl
theorem k_cTv (S : CallFix p m c cc nL s args Ts own) {E : kE} (hN : kN s) (hX : kX E s) (hAE : ∀ q, A q → E.1 ≤ q) (hK : va_K D vwCl tys s) (hP : va_P D vwCl ws H) (hD : va_D A ws) (hS : va_S A s.heap H locs) (hA : ∀ q, s.heap.size ≤ q → A q) (isC isR : List Nat) {ci : Nat} {fs : List Value} {q : vw_C} (hc : vwCl[ci]? = some q) (hC : isC.map (fun i => ws[i]?) = wc.map some) (hq0 : wc[0]? = some (b, .inr (ci, fs))) (hR : isR.map (fun i => ws[i]?) = wr.map some) (hnc : va_nd isC = true) (hn : va_nd isR = true) (hdis : ∀ i ∈ isR, i ∉ isC)
    (hM : kTV l E D tys y wy rm (.ref b :: As) wc cls mc ms) (cw : CallW R s args own q.1 index y bytes maxL ret wy rm mc ms n) (hlen : As.length = n) (hsize : ls.size = nL) (hW : (rest.map fun v => v.category).sum ≤ 8) (hdg : decode cc pc = .ok (.invokevirtual index, 3)) (hf : cells + mc ≤ R.cells ∧ slots + ms ≤ R.slots)
    (kk : ∀ (q9 : Addr) (ce : Cell) (H1 : Heap) (locs1 : List Loc), va_P D vwCl (wr ++ wc) H1 → va_D A (wr ++ wc) → va_S A s.heap H1 locs1 → H1[q9]? = some ce → ce.vm = .none → s.vm.findClass cls = some ce.cls → vx_W p l e R s m args below meth c H1 locs1 (cells + mc) (slots + ms) Q (F0 m pc ls rest) q9) : W p l e R s m args below meth c H locs cells slots Q (F0 m pc ls (As.reverse ++ .ref b :: rest)) := by
  obtain ⟨h1, h2⟩ := k_pre hN hX hAE hK hP hD hS isC hC hnc (.ref b :: As)
  refine vx_callv (vx_runV (As := As) (rest := rest) S (hM H.size) cw ⟨h1, va_recv hK (k_cut hP isC hC) hc hq0, h2⟩ rfl hlen hsize rfl (lv_room hW) hdg hf) hS (fun q _ h => va_free hD hS hA isC hC q h) (va_free hD hS hA isC hC) (fun q _ h => va_free hD hS hA isC hC q h) (fun E' ce q9 u t H1 locs1 ht hvm hp hB hz1 hk1 hS1 hce hcv hcl => ?_) (fun u t H1 locs1 ht hvm hw hB hz1 hk1 hS1 => hw.elim)
  obtain ⟨rfl, hP1, -, hD1⟩ := hB
  rw [ht] at hP1
  obtain ⟨g1, g2⟩ := k_after hP hD hS hA isC isR hC hR hn hdis hk1 hP1 hD1
  exact kk q9 ce H1 locs1 g1 g2 hS1 hce hcv hcl
theorem k_cSWi {hh : List (Nat × Nat × Nat × Nat)} {r : Int32} {w1 : va_W} (S : CallFix p m c cc nL s args Ts own) {E : kE} (hN : kN s) (hX : kX E s) (hAE : ∀ q, A q → E.1 ≤ q) (hK : va_K D vwCl tys s) (hP : va_P D vwCl ws H) (hD : va_D A ws) (hS : va_S A s.heap H locs) (hA : ∀ q, s.heap.size ≤ q → A q) (isC isR : List Nat) (hC : isC.map (fun i => ws[i]?) = wc.map some) (hR : isR.map (fun i => ws[i]?) = wr.map some) (hnc : va_nd isC = true) (hn : va_nd isR = true) (hdis : ∀ i ∈ isR, i ∉ isC)
    (hM : kI l E D tys y wy rm As wc r w1 mc ms) (cw : vx_CSW R s args own index y bytes maxL ret hh wy rm mc ms n) (hlen : As.length = n) (hsize : ls.size = nL) (hW : (rest.map fun v => v.category).sum ≤ 8) (hdg : decode cc pc = .ok (.invokestatic index, 3)) (hf : cells + mc ≤ R.cells ∧ slots + ms ≤ R.slots)
    (kk : ∀ (H1 : Heap) (locs1 : List Loc), va_P D vwCl (wr ++ w1) H1 → va_D A (wr ++ w1) → va_S A s.heap H1 locs1 → W p l e R s m args below meth c H1 locs1 (cells + mc) (slots + ms) Q (F0 m (pc + 3) ls (.int r :: rest))) : W p l e R s m args below meth c H locs cells slots Q (F0 m pc ls (As.reverse ++ rest)) := by
  obtain ⟨h1, h2⟩ := k_pre hN hX hAE hK hP hD hS isC hC hnc As
  refine va_calli (vx_runSW (As := As) (rest := rest) S (hM H.size) cw ⟨h1, h2⟩ rfl hlen hsize rfl (lv_room hW) hdg hf) hS (fun q _ h => va_free hD hS hA isC hC q h) (va_free hD hS hA isC hC) (fun x u t H1 locs1 ht hvm hw hB hz1 hk1 hS1 => ?_)
  subst hw
  obtain ⟨hP1, -, hD1⟩ := hB
  rw [ht] at hP1
  obtain ⟨g1, g2⟩ := k_after hP hD hS hA isC isR hC hR hn hdis hk1 hP1 hD1
  exact kk H1 locs1 g1 g2 hS1
end KX
