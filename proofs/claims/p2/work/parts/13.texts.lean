theorem kq_ok : ∀ q ∈ kSq, (∀ b ∈ q.2.2.2.2.2, ((b &&& 255).toUInt32 % 65536).toInt32 = b ∧ 0 ≤ b ∧ b < 128 ∧ narrow .char (.int b) = .int b) ∧ q.2.2.2.2.2.length = q.2.2.2.2.1 ∧ q.2.2.2.2.1 ≤ 160 ∧ Int32.ofNat q.2.2.2.2.1 >>> ((0 : Int32) &&& 31) = Int32.ofNat q.2.2.2.2.1 := by decide +kernel
theorem kq_byte {q : Nat × String × Nat × String × Nat × List Int32} (h : q ∈ kSq) (k : Nat) : ((q.2.2.2.2.2.getD k 0 &&& 255).toUInt32 % 65536).toInt32 = q.2.2.2.2.2.getD k 0 ∧ 0 ≤ q.2.2.2.2.2.getD k 0 ∧ q.2.2.2.2.2.getD k 0 < 128 ∧ narrow .char (.int (q.2.2.2.2.2.getD k 0)) = .int (q.2.2.2.2.2.getD k 0) := by
  by_cases hk : k < q.2.2.2.2.2.length
  · rw [List.getD_eq_getElem?_getD, List.getElem?_eq_getElem hk]; exact (kq_ok q h).1 _ (List.getElem_mem hk)
  · rw [List.getD_eq_getElem?_getD, List.getElem?_eq_none (by omega)]; decide
section PM7
variable {G : kG9} {M : MT} {Z : ZT} {B : Blk} {lv lv' : List (Nat × Value)} {st : List Value} {σ : St} {pc : Nat}
theorem wa_ldcT {idx : Nat} (q : Nat × String × Nat × String × Nat × List Int32) (hq : q ∈ kSq) (e1 : q.2.1 = M.2.2.2.2.1) (e2 : q.2.2.1 = idx) (kk : WA G M Z B lv (.ref (1000 + q.1) :: st) σ) : WA G M Z ((pc, .ldc idx, 2) :: B) lv st σ := by
  refine ⟨List.cons_ne_nil _ _, fun hB p e s m args below meth c H locs A ls hc hx hw hl => ?_⟩
  have k0 := kk
  have k9 := k0.2 hB.tl p e s m args below meth c H locs A ls hc hx hw hl
  rw [hB.nx k0.1] at k9
  refine va_ldcS hc.1 hc.2.1 hc.2.2.2.2.1 (tx := q.2.2.2.1) (q := ga G (1000 + q.1)) ?_ hB.dec k9
  rw [ga_t G (kq_lt hq), ← e1, ← e2]
  exact kX.tr hc.2.2.2.2.2.2.2.2.1 q hq
theorem wa_tval {idx : Nat} (q : Nat × String × Nat × String × Nat × List Int32) (hq : q ∈ kSq) (hf : Cond.fieldLink M.2.2.2.2.1 idx "java/lang/String" "value" "[B" ∈ allW) (kk : WA G M Z B lv (.ref (2000 + q.1) :: st) σ) : WA G M Z ((pc, .getfield idx, 3) :: B) lv (.ref (1000 + q.1) :: st) σ := by
  refine ⟨List.cons_ne_nil _ _, fun hB p e s m args below meth c H locs A ls hc hx hw hl => ?_⟩
  have k0 := kk
  have k9 := k0.2 hB.tl p e s m args below meth c H locs A ls hc hx hw hl
  rw [hB.nx k0.1] at k9
  refine vk_getf (o := "java/lang/String") (n := "value") (d := "[B") (ref := "java/lang/String") (q := ga G (1000 + q.1)) (v := .ref (ga G (2000 + q.1))) hc.1 hc.2.1 ?_ hw.2.2 hc.2.2.2.2.1 (hc.2.2.2.2.2.1 _ (List.mem_cons_of_mem _ hf)) (fun _ h9 => h9) hB.dec k9
  rw [ga_t G (kq_lt hq), ga_b G (kq_lt hq)]
  exact kX.tv hc.2.2.2.2.2.2.2.2.1 hc.2.2.2.2.2.2.2.2.2.1 q hq
theorem wa_tcod {idx : Nat} (q : Nat × String × Nat × String × Nat × List Int32) (hq : q ∈ kSq) (hf : Cond.fieldLink M.2.2.2.2.1 idx "java/lang/String" "coder" "B" ∈ allW) (kk : WA G M Z B lv (.int 0 :: st) σ) : WA G M Z ((pc, .getfield idx, 3) :: B) lv (.ref (1000 + q.1) :: st) σ := by
  refine ⟨List.cons_ne_nil _ _, fun hB p e s m args below meth c H locs A ls hc hx hw hl => ?_⟩
  have k0 := kk
  have k9 := k0.2 hB.tl p e s m args below meth c H locs A ls hc hx hw hl
  rw [hB.nx k0.1] at k9
  refine vk_getf (o := "java/lang/String") (n := "coder") (d := "B") (ref := "java/lang/String") (q := ga G (1000 + q.1)) (v := .int 0) hc.1 hc.2.1 ?_ hw.2.2 hc.2.2.2.2.1 (hc.2.2.2.2.2.1 _ (List.mem_cons_of_mem _ hf)) (fun _ h9 => h9) hB.dec k9
  rw [ga_t G (kq_lt hq)]
  exact kX.tc hc.2.2.2.2.2.2.2.2.1 hc.2.2.2.2.2.2.2.2.2.1 q hq
theorem wa_tcs {idx : Nat} (hf : Cond.fieldLink M.2.2.2.2.1 idx "java/lang/String" "COMPACT_STRINGS" "Z" ∈ allW) (kk : WA G M Z B lv (.int 1 :: st) σ) : WA G M Z ((pc, .getstatic idx, 3) :: B) lv st σ := by
  refine ⟨List.cons_ne_nil _ _, fun hB p e s m args below meth c H locs A ls hc hx hw hl => ?_⟩
  have k0 := kk
  have k9 := k0.2 hB.tl p e s m args below meth c H locs A ls hc hx hw hl
  rw [hB.nx k0.1] at k9
  exact va_gets (C := "java/lang/String") (n := "COMPACT_STRINGS") (d := "Z") (ref := "java/lang/String") hc.1 hc.2.1 (kX.cs hc.2.2.2.2.2.2.2.2.1 hc.2.2.2.2.2.2.2.2.2.1) hw.2.2 hc.2.2.2.2.1 (hc.2.2.2.2.2.1 _ (List.mem_cons_of_mem _ hf)) (fun _ h9 => h9) hB.dec k9
theorem wa_tfm {idx : Nat} (hf : Cond.fieldLink M.2.2.2.2.1 idx "jdk/internal/util/Preconditions" "SIOOBE_FORMATTER" "Ljava/util/function/BiFunction;" ∈ allW) (k1 : WA G M Z B lv (.null :: st) σ) (k2 : WA G M Z B lv (.ref 3000 :: st) σ) : WA G M Z ((pc, .getstatic idx, 3) :: B) lv st σ := by
  refine ⟨List.cons_ne_nil _ _, fun hB p e s m args below meth c H locs A ls hc hx hw hl => ?_⟩
  have a1 := k1.2 hB.tl p e s m args below meth c H locs A ls hc hx hw hl
  have a2 := k2.2 hB.tl p e s m args below meth c H locs A ls hc hx hw hl
  rw [hB.nx k1.1] at a1 a2
  refine va_gets (C := "jdk/internal/util/Preconditions") (n := "SIOOBE_FORMATTER") (d := "Ljava/util/function/BiFunction;") (ref := "jdk/internal/util/Preconditions") hc.1 hc.2.1 (kX.si hc.2.2.2.2.2.2.2.2.1 hc.2.2.2.2.2.2.2.2.2.1) hw.2.2 hc.2.2.2.2.1 (hc.2.2.2.2.2.1 _ (List.mem_cons_of_mem _ hf)) (fun _ h9 => h9) hB.dec ?_
  cases h9 : G.2.1.2.2.2.1 with
  | none => exact a1
  | some t =>
    have e9 : ga G 3000 = t := by show (if 3000 < 1000 then _ else if 3000 < 2000 then _ else if 3000 < 3000 then _ else G.2.1.2.2.2.1.getD 0) = t; rw [if_neg (by decide), if_neg (by decide), if_neg (by decide), h9]; rfl
    have a3 : W p G.1 e Z.1 s m args below meth c H locs Z.2.1 Z.2.2.1 (Z.2.2.2.2 below args s A) (F0 m (pc + 3) ls (.ref (ga G 3000) :: st.map (cv G))) := a2
    rw [e9] at a3
    exact a3
theorem wa_tlen (q : Nat × String × Nat × String × Nat × List Int32) (hq : q ∈ kSq) (kk : WA G M Z B lv (.int (Int32.ofNat q.2.2.2.2.1) :: st) σ) : WA G M Z ((pc, .arraylength, 1) :: B) lv (.ref (2000 + q.1) :: st) σ := by
  refine ⟨List.cons_ne_nil _ _, fun hB p e s m args below meth c H locs A ls hc hx hw hl => ?_⟩
  have k0 := kk
  have k9 := k0.2 hB.tl p e s m args below meth c H locs A ls hc hx hw hl
  rw [hB.nx k0.1] at k9
  refine va_tlen (t := ga G (2000 + q.1)) hc.1 hc.2.1 (ty := .byte) (N := q.2.2.2.2.1) (f := fun j => .int (q.2.2.2.2.2.getD j 0)) (A := A) ?_ hw.2.2 rfl hB.dec k9
  rw [ga_b G (kq_lt hq)]
  exact kX.tb hc.2.2.2.2.2.2.2.2.1 hc.2.2.2.2.2.2.2.2.2.1 q hq
theorem wa_tbyte (q : Nat × String × Nat × String × Nat × List Int32) (hq : q ∈ kSq) {i : Int32} (hi : vp_in i q.2.2.2.2.1) (kk : WA G M Z B lv (.int (q.2.2.2.2.2.getD i.toNatClampNeg 0) :: st) σ) : WA G M Z ((pc, .baload, 1) :: B) lv (.int i :: .ref (2000 + q.1) :: st) σ := by
  refine ⟨List.cons_ne_nil _ _, fun hB p e s m args below meth c H locs A ls hc hx hw hl => ?_⟩
  have k0 := kk
  have k9 := k0.2 hB.tl p e s m args below meth c H locs A ls hc hx hw hl
  rw [hB.nx k0.1] at k9
  refine va_tb (t := ga G (2000 + q.1)) hc.1 hc.2.1 (N := q.2.2.2.2.1) (f := fun j => .int (q.2.2.2.2.2.getD j 0)) (A := A) ?_ hw.2.2 hi rfl hB.dec k9
  rw [ga_b G (kq_lt hq)]
  exact kX.tb hc.2.2.2.2.2.2.2.2.1 hc.2.2.2.2.2.2.2.2.2.1 q hq
theorem wa_nreturn {d : Nat} {Q : Option Value → St → Prop} {ty : FieldType} {x : Int32} (hn : narrow ty (.int x) = .int x) (hr : M.2.2.2.1 = some ty) (hk : M.2.2.2.2.2 = 1) (hz : True) (hq : Q (some (.int x)) σ) : WA G M (ZM G M d Q) ((pc, .ireturn, 1) :: B) lv [.int x] σ := by
  refine ⟨List.cons_ne_nil _ _, fun hB p e s m args below meth c H locs A ls hc hx hw hl => ?_⟩
  show W p G.1 e (rmd d) s m args below meth c H locs 0 0 (MQ below (QC G Q A M.2.2.2.2.2) args s 0 0 A) _
  rw [hk]
  exact W.zret hc.1 hc.2.1 (hc.2.2.1.trans hr) hn (fun t ht hW => ⟨⟨x, σ, rfl, hq, by rw [ht]; exact hw.1, va_K.moved hW.alike hc.2.2.2.2.2.2.2.2.2.2.1, hw.2.1⟩, hw.2.2.F ht⟩) hw.2.2.2.2 hB.dec hc.2.2.2.2.2.2.1
end PM7

def M_J0_length_8abf5 : MT := (yJ0_length_8abf5, cJ0_length_8abf5, 1, (some .int), RJ0, 1)
theorem mk_J0_length_8abf5 : MokT M_J0_length_8abf5 0 := ⟨⟨⟨by decide, by decide, rfl⟩, (allW_in (kT_1 _ (List.mem_of_getElem? (i := 165) rfl)) rfl), (allW_in (kT_1 _ (List.mem_of_getElem? (i := 5) rfl)) rfl), by decide⟩, rfl, (allW_in (kT_1 _ (List.mem_of_getElem? (i := 163) rfl)) rfl), (allW_in (kT_1 _ (List.mem_of_getElem? (i := 164) rfl)) rfl)⟩
def M_J0_coder_7d493 : MT := (yJ0_coder_7d493, cJ0_coder_7d493, 1, (some .byte), RJ0, 1)
theorem mk_J0_coder_7d493 : MokT M_J0_coder_7d493 0 := ⟨⟨⟨by decide, by decide, rfl⟩, (allW_in (kT_1 _ (List.mem_of_getElem? (i := 169) rfl)) rfl), (allW_in (kT_1 _ (List.mem_of_getElem? (i := 5) rfl)) rfl), by decide⟩, rfl, (allW_in (kT_1 _ (List.mem_of_getElem? (i := 167) rfl)) rfl), (allW_in (kT_1 _ (List.mem_of_getElem? (i := 168) rfl)) rfl)⟩
def M_J0_isLatin1_aae02 : MT := (yJ0_isLatin1_aae02, cJ0_isLatin1_aae02, 1, (some .boolean), RJ0, 1)
theorem mk_J0_isLatin1_aae02 : MokT M_J0_isLatin1_aae02 0 := ⟨⟨⟨by decide, by decide, rfl⟩, (allW_in (kT_1 _ (List.mem_of_getElem? (i := 179) rfl)) rfl), (allW_in (kT_1 _ (List.mem_of_getElem? (i := 5) rfl)) rfl), by decide⟩, rfl, (allW_in (kT_1 _ (List.mem_of_getElem? (i := 177) rfl)) rfl), (allW_in (kT_1 _ (List.mem_of_getElem? (i := 178) rfl)) rfl)⟩
def M_J0_charAt_5068e : MT := (yJ0_charAt_5068e, cJ0_charAt_5068e, 2, (some .char), RJ0, 1)
theorem mk_J0_charAt_5068e : MokT M_J0_charAt_5068e 1 := ⟨⟨⟨by decide, by decide, rfl⟩, (allW_in (kT_1 _ (List.mem_of_getElem? (i := 175) rfl)) rfl), (allW_in (kT_1 _ (List.mem_of_getElem? (i := 5) rfl)) rfl), by decide⟩, rfl, (allW_in (kT_1 _ (List.mem_of_getElem? (i := 173) rfl)) rfl), (allW_in (kT_1 _ (List.mem_of_getElem? (i := 174) rfl)) rfl)⟩
def M_J0_checkIndex_df160 : MT := (yJ0_checkIndex_df160, cJ0_checkIndex_df160, 2, none, RJ0, 0)
theorem mk_J0_checkIndex_df160 : MokS M_J0_checkIndex_df160 2 := ⟨⟨⟨by decide, by decide, rfl⟩, (allW_in (kT_1 _ (List.mem_of_getElem? (i := 185) rfl)) rfl), (allW_in (kT_1 _ (List.mem_of_getElem? (i := 5) rfl)) rfl), by decide⟩, (allW_in (kT_1 _ (List.mem_of_getElem? (i := 184) rfl)) rfl)⟩
def M_J1_charAt_3b067 : MT := (yJ1_charAt_3b067, cJ1_charAt_3b067, 2, (some .char), RJ1, 1)
theorem mk_J1_charAt_3b067 : MokS M_J1_charAt_3b067 2 := ⟨⟨⟨by decide, by decide, rfl⟩, (allW_in (kT_1 _ (List.mem_of_getElem? (i := 182) rfl)) rfl), (allW_in (kT_1 _ (List.mem_of_getElem? (i := 6) rfl)) rfl), by decide⟩, (allW_in (kT_1 _ (List.mem_of_getElem? (i := 181) rfl)) rfl)⟩
def M_J3_checkIndex_8e157 : MT := (yJ3_checkIndex_8e157, cJ3_checkIndex_8e157, 3, (some .int), RJ3, 1)
theorem mk_J3_checkIndex_8e157 : MokS M_J3_checkIndex_8e157 3 := ⟨⟨⟨by decide, by decide, rfl⟩, (allW_in (kT_1 _ (List.mem_of_getElem? (i := 190) rfl)) rfl), (allW_in (kT_1 _ (List.mem_of_getElem? (i := 7) rfl)) rfl), by decide⟩, (allW_in (kT_1 _ (List.mem_of_getElem? (i := 189) rfl)) rfl)⟩
def B_J0_length_8abf5_0 : Blk := (0, .aload_n 0, 1) :: (1, .getfield 9, 3) :: (4, .arraylength, 1) :: (5, .aload_n 0, 1) :: (6, .invokevirtual 335, 3) :: (9, .ishr, 1) :: (10, .ireturn, 1) :: []
theorem o_J0_length_8abf5_0 : Chn cJ0_length_8abf5 B_J0_length_8abf5_0 := chn_of _ (by decide +kernel)
def B_J0_coder_7d493_14 : Blk := (14, .ireturn, 1) :: []
theorem o_J0_coder_7d493_14 : Chn cJ0_coder_7d493 B_J0_coder_7d493_14 := chn_of _ (by decide +kernel)
def B_J0_coder_7d493_13 : Blk := (13, .iconst 1, 1) :: B_J0_coder_7d493_14
theorem o_J0_coder_7d493_13 : Chn cJ0_coder_7d493 B_J0_coder_7d493_13 := chn_app ((13, .iconst 1, 1) :: []) o_J0_coder_7d493_14 (by decide +kernel)
def B_J0_coder_7d493_0 : Blk := (0, .getstatic 38, 3) :: (3, .ifCond .eq 10, 3) :: (6, .aload_n 0, 1) :: (7, .getfield 15, 3) :: (10, .goto 4, 3) :: []
theorem o_J0_coder_7d493_0 : Chn cJ0_coder_7d493 B_J0_coder_7d493_0 := chn_of _ (by decide +kernel)
def B_J0_isLatin1_aae02_18 : Blk := (18, .ireturn, 1) :: []
theorem o_J0_isLatin1_aae02_18 : Chn cJ0_isLatin1_aae02 B_J0_isLatin1_aae02_18 := chn_of _ (by decide +kernel)
def B_J0_isLatin1_aae02_17 : Blk := (17, .iconst 0, 1) :: B_J0_isLatin1_aae02_18
theorem o_J0_isLatin1_aae02_17 : Chn cJ0_isLatin1_aae02 B_J0_isLatin1_aae02_17 := chn_app ((17, .iconst 0, 1) :: []) o_J0_isLatin1_aae02_18 (by decide +kernel)
def B_J0_isLatin1_aae02_0 : Blk := (0, .getstatic 38, 3) :: (3, .ifCond .eq 14, 3) :: (6, .aload_n 0, 1) :: (7, .getfield 15, 3) :: (10, .ifCond .ne 7, 3) :: (13, .iconst 1, 1) :: (14, .goto 4, 3) :: []
theorem o_J0_isLatin1_aae02_0 : Chn cJ0_isLatin1_aae02 B_J0_isLatin1_aae02_0 := chn_of _ (by decide +kernel)
def B_J0_checkIndex_df160_0 : Blk := (0, .iload_n 0, 1) :: (1, .iload_n 1, 1) :: (2, .getstatic 1053, 3) :: (5, .invokestatic 1059, 3) :: (8, .pop, 1) :: (9, .return_, 1) :: []
theorem o_J0_checkIndex_df160_0 : Chn cJ0_checkIndex_df160 B_J0_checkIndex_df160_0 := chn_of _ (by decide +kernel)
def B_J1_charAt_3b067_0 : Blk := (0, .iload_n 1, 1) :: (1, .aload_n 0, 1) :: (2, .arraylength, 1) :: (3, .invokestatic 9, 3) :: (6, .aload_n 0, 1) :: (7, .iload_n 1, 1) :: (8, .baload, 1) :: (9, .sipush 255, 3) :: (12, .iand, 1) :: (13, .i2c, 1) :: (14, .ireturn, 1) :: []
theorem o_J1_charAt_3b067_0 : Chn cJ1_charAt_3b067 B_J1_charAt_3b067_0 := chn_of _ (by decide +kernel)
def B_J3_checkIndex_8e157_16 : Blk := (16, .iload_n 0, 1) :: (17, .ireturn, 1) :: []
theorem o_J3_checkIndex_8e157_16 : Chn cJ3_checkIndex_8e157 B_J3_checkIndex_8e157_16 := chn_of _ (by decide +kernel)
def B_J3_checkIndex_8e157_9 : Blk := (9, .aload_n 2, 1) :: (10, .iload_n 0, 1) :: (11, .iload_n 1, 1) :: (12, .invokestatic 95, 3) :: (15, .athrow, 1) :: []
theorem o_J3_checkIndex_8e157_9 : Chn cJ3_checkIndex_8e157 B_J3_checkIndex_8e157_9 := chn_of _ (by decide +kernel)
def B_J3_checkIndex_8e157_0 : Blk := (0, .iload_n 0, 1) :: (1, .ifCond .lt 8, 3) :: (4, .iload_n 0, 1) :: (5, .iload_n 1, 1) :: (6, .if_icmp .lt 10, 3) :: B_J3_checkIndex_8e157_9
theorem o_J3_checkIndex_8e157_0 : Chn cJ3_checkIndex_8e157 B_J3_checkIndex_8e157_0 := chn_app ((0, .iload_n 0, 1) :: (1, .ifCond .lt 8, 3) :: (4, .iload_n 0, 1) :: (5, .iload_n 1, 1) :: (6, .if_icmp .lt 10, 3) :: []) o_J3_checkIndex_8e157_9 (by decide +kernel)
def B_J0_charAt_5068e_16 : Blk := (16, .aload_n 0, 1) :: (17, .getfield 9, 3) :: (20, .iload_n 1, 1) :: (21, .invokestatic 498, 3) :: (24, .ireturn, 1) :: []
theorem o_J0_charAt_5068e_16 : Chn cJ0_charAt_5068e B_J0_charAt_5068e_16 := chn_of _ (by decide +kernel)
def B_J0_charAt_5068e_0 : Blk := (0, .aload_n 0, 1) :: (1, .invokevirtual 492, 3) :: (4, .ifCond .eq 12, 3) :: (7, .aload_n 0, 1) :: (8, .getfield 9, 3) :: (11, .iload_n 1, 1) :: (12, .invokestatic 495, 3) :: (15, .ireturn, 1) :: []
theorem o_J0_charAt_5068e_0 : Chn cJ0_charAt_5068e B_J0_charAt_5068e_0 := chn_of _ (by decide +kernel)
theorem ml_RJ0_335 : MLk RJ0 335 yJ0_coder_7d493 := Or.inl (allW_in (kT_1 _ (List.mem_of_getElem? (i := 166) rfl)) rfl)
theorem ml_RJ0_492 : MLk RJ0 492 yJ0_isLatin1_aae02 := Or.inl (allW_in (kT_1 _ (List.mem_of_getElem? (i := 176) rfl)) rfl)
theorem ml_RJ0_495 : MLk RJ0 495 yJ1_charAt_3b067 := Or.inl (allW_in (kT_1 _ (List.mem_of_getElem? (i := 180) rfl)) rfl)
theorem ml_RJ1_9 : MLk RJ1 9 yJ0_checkIndex_df160 := Or.inl (allW_in (kT_1 _ (List.mem_of_getElem? (i := 183) rfl)) rfl)
theorem ml_RJ0_1059 : MLk RJ0 1059 yJ3_checkIndex_8e157 := Or.inl (allW_in (kT_1 _ (List.mem_of_getElem? (i := 188) rfl)) rfl)
set_option maxHeartbeats 4000000 in
theorem sp_J0_coder_7d493 (G : kG9) {d : Nat} (σ : St) (q : Nat × String × Nat × String × Nat × List Int32) (hq : q ∈ kSq) : Ct G M_J0_coder_7d493 d [.ref (1000 + q.1)] σ (fun r σ' => r = some (.int 0) ∧ σ = σ') := by
  refine wa_start (by decide) rfl (Nat.le_of_ble_eq_true rfl) (lv := [(0, .ref (1000 + q.1))]) rfl o_J0_coder_7d493_0 rfl ?_
  refine wa_tcs (allW_in (kT_1 _ (List.mem_of_getElem? (i := 170) rfl)) rfl) ?_
  refine wa_if_eq o_J0_coder_7d493_13 (by decide) (fun h => absurd h (by decide)) (fun _ => ?_)
  refine wa_aload_n (i := 0) rfl rfl ?_
  refine wa_tcod q hq (allW_in (kT_16 _ (List.mem_of_getElem? (i := 19) rfl)) rfl) ?_
  refine wa_goto o_J0_coder_7d493_14 (by decide) ?_
  exact wa_nreturn rfl rfl rfl trivial ⟨rfl, rfl⟩
set_option maxHeartbeats 4000000 in
theorem sp_J0_isLatin1_aae02 (G : kG9) {d : Nat} (σ : St) (q : Nat × String × Nat × String × Nat × List Int32) (hq : q ∈ kSq) : Ct G M_J0_isLatin1_aae02 d [.ref (1000 + q.1)] σ (fun r σ' => r = some (.int 1) ∧ σ = σ') := by
  refine wa_start (by decide) rfl (Nat.le_of_ble_eq_true rfl) (lv := [(0, .ref (1000 + q.1))]) rfl o_J0_isLatin1_aae02_0 rfl ?_
  refine wa_tcs (allW_in (kT_1 _ (List.mem_of_getElem? (i := 170) rfl)) rfl) ?_
  refine wa_if_eq o_J0_isLatin1_aae02_17 (by decide) (fun h => absurd h (by decide)) (fun _ => ?_)
  refine wa_aload_n (i := 0) rfl rfl ?_
  refine wa_tcod q hq (allW_in (kT_16 _ (List.mem_of_getElem? (i := 19) rfl)) rfl) ?_
  refine wa_if_ne o_J0_isLatin1_aae02_17 (by decide) (fun h => absurd rfl h) (fun _ => ?_)
  refine wa_iconst (v := 1) (by decide) ?_
  refine wa_goto o_J0_isLatin1_aae02_18 (by decide) ?_
  exact wa_nreturn rfl rfl rfl trivial ⟨rfl, rfl⟩
set_option maxHeartbeats 4000000 in
theorem sp_J0_length_8abf5 (G : kG9) {d : Nat} (hd : 1 ≤ d) (σ : St) (q : Nat × String × Nat × String × Nat × List Int32) (hq : q ∈ kSq) : Ct G M_J0_length_8abf5 d [.ref (1000 + q.1)] σ (fun r σ' => ∃ x : Int32, r = some (.int x) ∧ σ = σ' ∧ (x.toInt = (q.2.2.2.2.1 : Int) ∧ x.toInt ≤ 160) ∧ True) := by
  refine wa_start (by decide) rfl (Nat.le_of_ble_eq_true rfl) (lv := [(0, .ref (1000 + q.1))]) rfl o_J0_length_8abf5_0 rfl ?_
  refine wa_aload_n (i := 0) rfl rfl ?_
  refine wa_tval q hq (allW_in (kT_16 _ (List.mem_of_getElem? (i := 18) rfl)) rfl) ?_
  refine wa_tlen q hq ?_
  refine wa_aload_n (i := 0) rfl rfl ?_
  refine wa_Ti (d9 := d - 1) q [] [.int _] (sp_J0_coder_7d493 G σ q hq) rfl rfl rfl (zr (by omega)) mk_J0_coder_7d493 hq ml_RJ0_335 (Nat.le_of_ble_eq_true rfl) (fun x s2 h9 => ?_)
  obtain ⟨e1, e2⟩ := h9
  cases e1
  subst e2
  refine wa_ishr ?_
  refine wa_rw (kq_ok q hq).2.2.2 ?_
  have h2 := (kq_ok q hq).2.2.1
  have e : (Int32.ofNat q.2.2.2.2.1).toInt = q.2.2.2.2.1 := by rw [Int32.toInt_ofNat_of_lt (by omega)]
  exact wa_ireturn rfl rfl ⟨_, rfl, rfl, ⟨e, by omega⟩, trivial⟩
set_option maxHeartbeats 4000000 in
theorem sp_J3_checkIndex_8e157_0 (G : kG9) {d : Nat} (σ : St) (x y : Int32) (h0 : ¬ x < 0) (h1 : x < y) : Ct G M_J3_checkIndex_8e157 d [.int x, .int y, .null] σ (fun r σ' => r = some (.int x) ∧ σ = σ') := by
  refine wa_start (by decide) rfl (Nat.le_of_ble_eq_true rfl) (lv := [(0, .int x), (1, .int y), (2, .null)]) rfl o_J3_checkIndex_8e157_0 rfl ?_
  refine wa_iload_n (i := 0) rfl rfl ?_
  refine wa_if_lt o_J3_checkIndex_8e157_9 (by decide) (fun h => absurd h h0) (fun _ => ?_)
  refine wa_iload_n (i := 0) rfl rfl ?_
  refine wa_iload_n (i := 1) rfl rfl ?_
  refine wa_icmp_lt o_J3_checkIndex_8e157_16 (by decide) (fun _ => ?_) (fun h => absurd h1 h)
  refine wa_iload_n (i := 0) rfl rfl ?_
  exact wa_ireturn rfl rfl ⟨rfl, rfl⟩
set_option maxHeartbeats 4000000 in
theorem sp_J3_checkIndex_8e157_1 (G : kG9) {d : Nat} (σ : St) (x y : Int32) (h0 : ¬ x < 0) (h1 : x < y) : Ct G M_J3_checkIndex_8e157 d [.int x, .int y, .ref 3000] σ (fun r σ' => r = some (.int x) ∧ σ = σ') := by
  refine wa_start (by decide) rfl (Nat.le_of_ble_eq_true rfl) (lv := [(0, .int x), (1, .int y), (2, .ref 3000)]) rfl o_J3_checkIndex_8e157_0 rfl ?_
  refine wa_iload_n (i := 0) rfl rfl ?_
  refine wa_if_lt o_J3_checkIndex_8e157_9 (by decide) (fun h => absurd h h0) (fun _ => ?_)
  refine wa_iload_n (i := 0) rfl rfl ?_
  refine wa_iload_n (i := 1) rfl rfl ?_
  refine wa_icmp_lt o_J3_checkIndex_8e157_16 (by decide) (fun _ => ?_) (fun h => absurd h1 h)
  refine wa_iload_n (i := 0) rfl rfl ?_
  exact wa_ireturn rfl rfl ⟨rfl, rfl⟩
set_option maxHeartbeats 4000000 in
theorem sp_J0_checkIndex_df160 (G : kG9) {d : Nat} (hd : 1 ≤ d) (σ : St) (x y : Int32) (h0 : ¬ x < 0) (h1 : x < y) : Ct G M_J0_checkIndex_df160 d [.int x, .int y] σ (fun r σ' => σ = σ') := by
  refine wa_start (by decide) rfl (Nat.le_of_ble_eq_true rfl) (lv := [(0, .int x), (1, .int y)]) rfl o_J0_checkIndex_df160_0 rfl ?_
  refine wa_iload_n (i := 0) rfl rfl ?_
  refine wa_iload_n (i := 1) rfl rfl ?_
  refine wa_tfm (allW_in (kT_1 _ (List.mem_of_getElem? (i := 186) rfl)) rfl) ?_ ?_
  · refine wa_Si (d9 := d - 1) [.int x, .int y, .null] [] (sp_J3_checkIndex_8e157_0 G σ x y h0 h1) rfl rfl rfl (zr (by omega)) mk_J3_checkIndex_8e157 ml_RJ0_1059 (Nat.le_of_ble_eq_true rfl) (fun x2 s2 h9 => ?_)
    obtain ⟨e1, e2⟩ := h9
    subst e2
    refine wa_pop rfl ?_
    exact wa_return (st := []) rfl rfl rfl
  · refine wa_Si (d9 := d - 1) [.int x, .int y, .ref 3000] [] (sp_J3_checkIndex_8e157_1 G σ x y h0 h1) rfl rfl rfl (zr (by omega)) mk_J3_checkIndex_8e157 ml_RJ0_1059 (Nat.le_of_ble_eq_true rfl) (fun x2 s2 h9 => ?_)
    obtain ⟨e1, e2⟩ := h9
    subst e2
    refine wa_pop rfl ?_
    exact wa_return (st := []) rfl rfl rfl
set_option maxHeartbeats 4000000 in
theorem sp_J1_charAt_3b067 (G : kG9) {d : Nat} (hd : 2 ≤ d) (σ : St) (q : Nat × String × Nat × String × Nat × List Int32) (hq : q ∈ kSq) (i : Int32) (h0 : ¬ i < 0) (h1 : i < Int32.ofNat q.2.2.2.2.1) (hi : vp_in i q.2.2.2.2.1) : Ct G M_J1_charAt_3b067 d [.ref (2000 + q.1), .int i] σ (fun r σ' => r = some (.int (q.2.2.2.2.2.getD i.toNatClampNeg 0)) ∧ σ = σ') := by
  refine wa_start (by decide) rfl (Nat.le_of_ble_eq_true rfl) (lv := [(0, .ref (2000 + q.1)), (1, .int i)]) rfl o_J1_charAt_3b067_0 rfl ?_
  refine wa_iload_n (i := 1) rfl rfl ?_
  refine wa_aload_n (i := 0) rfl rfl ?_
  refine wa_tlen q hq ?_
  refine wa_Sv (d9 := d - 1) [.int i, .int (Int32.ofNat q.2.2.2.2.1)] [] (sp_J0_checkIndex_df160 G (by omega) σ i _ h0 h1) rfl rfl rfl (zr (by omega)) mk_J0_checkIndex_df160 ml_RJ1_9 (Nat.le_of_ble_eq_true rfl) (fun s2 h9 => ?_)
  subst h9
  refine wa_aload_n (i := 0) rfl rfl ?_
  refine wa_iload_n (i := 1) rfl rfl ?_
  refine wa_tbyte q hq hi ?_
  refine wa_sipush (v := 255) (by decide) ?_
  refine wa_iand ?_
  refine wa_i2c ?_
  have k9 := kq_byte hq i.toNatClampNeg
  refine wa_rw k9.1 ?_
  exact wa_nreturn k9.2.2.2 rfl rfl trivial ⟨rfl, rfl⟩
theorem kq_in {q : Nat × String × Nat × String × Nat × List Int32} (hq : q ∈ kSq) {i : Int32} (h0 : 0 ≤ i.toInt) (h1 : i.toInt < q.2.2.2.2.1) : ¬ i < 0 ∧ i < Int32.ofNat q.2.2.2.2.1 ∧ vp_in i q.2.2.2.2.1 := by
  have h2 := (kq_ok q hq).2.2.1
  have e : (Int32.ofNat q.2.2.2.2.1).toInt = q.2.2.2.2.1 := by rw [Int32.toInt_ofNat_of_lt (by omega)]
  refine ⟨?_, ?_, ?_⟩
  · rw [Int32.lt_iff_toInt_lt]; simp only [Int32.reduceToInt]; omega
  · rw [Int32.lt_iff_toInt_lt, e]; exact h1
  · rw [vp_in_iff]; refine ⟨?_, ?_⟩ <;> first | omega | (simp only [Int32.le_iff_toInt_le, Int32.lt_iff_toInt_lt, Int32.reduceToInt, Int32.toNatClampNeg]; omega)
set_option maxHeartbeats 4000000 in
theorem sp_J0_charAt_5068e (G : kG9) {d : Nat} (hd : 3 ≤ d) (σ : St) (q : Nat × String × Nat × String × Nat × List Int32) (hq : q ∈ kSq) (i : Int32) (h0 : 0 ≤ i.toInt) (h1 : i.toInt < q.2.2.2.2.1) : Ct G M_J0_charAt_5068e d [.ref (1000 + q.1), .int i] σ (fun r σ' => ∃ x : Int32, r = some (.int x) ∧ σ = σ' ∧ (x = q.2.2.2.2.2.getD i.toNatClampNeg 0 ∧ 0 ≤ x.toInt ∧ x.toInt < 128) ∧ True) := by
  refine wa_start (by decide) rfl (Nat.le_of_ble_eq_true rfl) (lv := [(0, .ref (1000 + q.1)), (1, .int i)]) rfl o_J0_charAt_5068e_0 rfl ?_
  refine wa_aload_n (i := 0) rfl rfl ?_
  obtain ⟨i0, i1, i2⟩ := kq_in hq h0 h1
  have k9 := kq_byte hq i.toNatClampNeg
  refine wa_Ti (d9 := d - 1) q [] [] (sp_J0_isLatin1_aae02 G σ q hq) rfl rfl rfl (zr (by omega)) mk_J0_isLatin1_aae02 hq ml_RJ0_492 (Nat.le_of_ble_eq_true rfl) (fun x s2 h9 => ?_)
  obtain ⟨e1, e2⟩ := h9
  cases e1
  subst e2
  refine wa_if_eq o_J0_charAt_5068e_16 (by decide) (fun h => absurd h (by decide)) (fun _ => ?_)
  refine wa_aload_n (i := 0) rfl rfl ?_
  refine wa_tval q hq (allW_in (kT_16 _ (List.mem_of_getElem? (i := 18) rfl)) rfl) ?_
  refine wa_iload_n (i := 1) rfl rfl ?_
  refine wa_Si (d9 := d - 1) [.ref (2000 + q.1), .int i] [] (sp_J1_charAt_3b067 G (by omega) σ q hq i i0 i1 i2) rfl rfl rfl (zr (by omega)) mk_J1_charAt_3b067 ml_RJ0_495 (Nat.le_of_ble_eq_true rfl) (fun x s2 h9 => ?_)
  obtain ⟨e1, e2⟩ := h9
  cases e1
  subst e2
  exact wa_nreturn k9.2.2.2 rfl rfl trivial ⟨_, rfl, rfl, ⟨rfl, by have := Int32.le_iff_toInt_le.mp k9.2.1; exact this, by have := Int32.lt_iff_toInt_lt.mp k9.2.2.1; exact this⟩, trivial⟩
abbrev kq_0 : Nat × String × Nat × String × Nat × List Int32 := (0, "IntegerHouseModel", 47, "", 0, kSb_0)
theorem km_0 : kq_0 ∈ kSq := List.mem_of_getElem? (i := 0) rfl
abbrev kq_1 : Nat × String × Nat × String × Nat × List Int32 := (1, "IntegerHouseModel", 49, "var", 3, kSb_1)
theorem km_1 : kq_1 ∈ kSq := List.mem_of_getElem? (i := 1) rfl
abbrev kq_2 : Nat × String × Nat × String × Nat × List Int32 := (2, "IntegerHouseModel", 51, "claim", 5, kSb_2)
theorem km_2 : kq_2 ∈ kSq := List.mem_of_getElem? (i := 2) rfl
abbrev kq_3 : Nat × String × Nat × String × Nat × List Int32 := (3, "IntegerHouseModel", 53, "and", 3, kSb_3)
theorem km_3 : kq_3 ∈ kSq := List.mem_of_getElem? (i := 3) rfl
abbrev kq_4 : Nat × String × Nat × String × Nat × List Int32 := (4, "IntegerHouseModel", 55, "or", 2, kSb_4)
theorem km_4 : kq_4 ∈ kSq := List.mem_of_getElem? (i := 4) rfl
abbrev kq_5 : Nat × String × Nat × String × Nat × List Int32 := (5, "IntegerHouseModel", 57, "not", 3, kSb_5)
theorem km_5 : kq_5 ∈ kSq := List.mem_of_getElem? (i := 5) rfl
abbrev kq_6 : Nat × String × Nat × String × Nat × List Int32 := (6, "IntegerHouseModel", 59, "true", 4, kSb_6)
theorem km_6 : kq_6 ∈ kSq := List.mem_of_getElem? (i := 6) rfl
abbrev kq_7 : Nat × String × Nat × String × Nat × List Int32 := (7, "IntegerHouseModel", 61, "false", 5, kSb_7)
theorem km_7 : kq_7 ∈ kSq := List.mem_of_getElem? (i := 7) rfl
abbrev kq_8 : Nat × String × Nat × String × Nat × List Int32 := (8, "IntegerHouseModel", 63, "abs", 3, kSb_8)
theorem km_8 : kq_8 ∈ kSq := List.mem_of_getElem? (i := 8) rfl
abbrev kq_9 : Nat × String × Nat × String × Nat × List Int32 := (9, "IntegerHouseModel", 65, "min", 3, kSb_9)
theorem km_9 : kq_9 ∈ kSq := List.mem_of_getElem? (i := 9) rfl
abbrev kq_10 : Nat × String × Nat × String × Nat × List Int32 := (10, "IntegerHouseModel", 67, "max", 3, kSb_10)
theorem km_10 : kq_10 ∈ kSq := List.mem_of_getElem? (i := 10) rfl
abbrev kq_11 : Nat × String × Nat × String × Nat × List Int32 := (11, "IntegerHouseModel", 69, "div", 3, kSb_11)
theorem km_11 : kq_11 ∈ kSq := List.mem_of_getElem? (i := 11) rfl
abbrev kq_12 : Nat × String × Nat × String × Nat × List Int32 := (12, "IntegerHouseModel", 71, "mod", 3, kSb_12)
theorem km_12 : kq_12 ∈ kSq := List.mem_of_getElem? (i := 12) rfl
abbrev kq_13 : Nat × String × Nat × String × Nat × List Int32 := (13, "IntegerHouseModel", 73, "divides", 7, kSb_13)
theorem km_13 : kq_13 ∈ kSq := List.mem_of_getElem? (i := 13) rfl
abbrev kq_14 : Nat × String × Nat × String × Nat × List Int32 := (14, "IntegerHouseModel", 75, "if", 2, kSb_14)
theorem km_14 : kq_14 ∈ kSq := List.mem_of_getElem? (i := 14) rfl
abbrev kq_15 : Nat × String × Nat × String × Nat × List Int32 := (15, "IntegerHouse$Lexer", 32, "var     claim   and     or      not     true    false   abs     min     max     div     mod     divides if      of      sum     cut     case    else    done    ", 160, kSb_15)
theorem km_15 : kq_15 ∈ kSq := List.mem_of_getElem? (i := 15) rfl
abbrev kq_16 : Nat × String × Nat × String × Nat × List Int32 := (16, "IntegerHouse$Lexer", 84, "            ===>=", 17, kSb_16)
theorem km_16 : kq_16 ∈ kSq := List.mem_of_getElem? (i := 16) rfl
abbrev kq_17 : Nat × String × Nat × String × Nat × List Int32 := (17, "IntegerHouse$Lexer", 86, "()[],;=+-*<><>!-=", 17, kSb_17)
theorem km_17 : kq_17 ∈ kSq := List.mem_of_getElem? (i := 17) rfl
abbrev kq_18 : Nat × String × Nat × String × Nat × List Int32 := (18, "IntegerHouseModel", 916, "(", 1, kSb_18)
theorem km_18 : kq_18 ∈ kSq := List.mem_of_getElem? (i := 18) rfl
abbrev kq_19 : Nat × String × Nat × String × Nat × List Int32 := (19, "IntegerHouseModel", 918, ")", 1, kSb_19)
theorem km_19 : kq_19 ∈ kSq := List.mem_of_getElem? (i := 19) rfl
abbrev kq_20 : Nat × String × Nat × String × Nat × List Int32 := (20, "IntegerHouseModel", 921, "->", 2, kSb_20)
theorem km_20 : kq_20 ∈ kSq := List.mem_of_getElem? (i := 20) rfl
abbrev kq_21 : Nat × String × Nat × String × Nat × List Int32 := (21, "IntegerHouseModel", 923, "==", 2, kSb_21)
theorem km_21 : kq_21 ∈ kSq := List.mem_of_getElem? (i := 21) rfl
abbrev kq_22 : Nat × String × Nat × String × Nat × List Int32 := (22, "IntegerHouseModel", 1228, "of", 2, kSb_22)
theorem km_22 : kq_22 ∈ kSq := List.mem_of_getElem? (i := 22) rfl
abbrev kq_23 : Nat × String × Nat × String × Nat × List Int32 := (23, "IntegerHouseModel", 1230, "sum", 3, kSb_23)
theorem km_23 : kq_23 ∈ kSq := List.mem_of_getElem? (i := 23) rfl
abbrev kq_24 : Nat × String × Nat × String × Nat × List Int32 := (24, "IntegerHouseModel", 1231, "cut", 3, kSb_24)
theorem km_24 : kq_24 ∈ kSq := List.mem_of_getElem? (i := 24) rfl
abbrev kq_25 : Nat × String × Nat × String × Nat × List Int32 := (25, "IntegerHouseModel", 1233, "case", 4, kSb_25)
theorem km_25 : kq_25 ∈ kSq := List.mem_of_getElem? (i := 25) rfl
abbrev kq_26 : Nat × String × Nat × String × Nat × List Int32 := (26, "IntegerHouseModel", 1235, "else", 4, kSb_26)
theorem km_26 : kq_26 ∈ kSq := List.mem_of_getElem? (i := 26) rfl
abbrev kq_27 : Nat × String × Nat × String × Nat × List Int32 := (27, "IntegerHouseModel", 1237, "done", 4, kSb_27)
theorem km_27 : kq_27 ∈ kSq := List.mem_of_getElem? (i := 27) rfl
