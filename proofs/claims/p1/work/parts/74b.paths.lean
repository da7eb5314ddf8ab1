
set_option maxHeartbeats 400000000 in
set_option maxRecDepth 100000 in
theorem law_19_1 {p : Program} {l : Launch} {e : Env} {s : State} {m : MethodId} {below : List Frame} {meth : Method} {c : Code} {b : Nat} {xs : Nat → Int32} (E : kE) (D : va_G) (cI cJ cB cZ : ClassId) (A : Nat → Prop) (Q : State → Prop) (h0 : Nat) (h1 : Nat) (h2 : Nat) (f0 : List Value) (h3 : Nat) (f1 : List Value) (h4 : Nat) (f2 : List Value) (f3 : List Value) (e0 : f0[1]? = some (.ref h3)) (e1 : f1[8]? = some (.int 0)) (e2 : f0[2]? = some (.ref h4)) (e3 : ¬ (((xs 1) : Int32) < 0)) (e4 : f2[11]? = some (.int 0)) (e5 : f3[0]? = some (.int 0)) (e6 : f3[5]? = some (.int 0)) (e7 : f3[33]? = some (.int 0)) (X9 : kLaw p l s m c b xs E D cI cJ cB cZ A) (T9 : kTail p l e s m b below meth c A Q) {H : Heap} {locs : List Loc} {ls : Array Slot} (hP : va_P D vwCl [(h0, .inr (11, f0)), (h3, .inr (1, f1)), (h4, .inr (2, f2)), (h1, .inr (12, f3))] H) (hD : va_D A [(h0, .inr (11, f0)), (h3, .inr (1, f1)), (h4, .inr (2, f2)), (h1, .inr (12, f3))]) (hS : va_S A s.heap H locs) (hl : lv_has ls 8 [(0, .ref b), (1, .ref h0), (2, .ref h1), (3, .ref h2), (4, .int 0)]) : W p l e room_1 s m #[Value.ref b] below meth c H locs 218 1205840 Q (F0 m 867 ls []) := by
  obtain ⟨hl9, hx, hb, hml, hown, hts, hN, hX, hAE, hK, hA, hXs, hbl, hbA⟩ := X9
  refine lv_aload_n hx hb dL_law_867 rfl (lv_at hl 1 rfl) ?_
  refine lv_aload_n hx hb dL_law_868 rfl (lv_at hl 0 rfl) ?_
  refine lv_iload hx hb dL_law_869 (lv_at hl 4 rfl) ?_
  refine lv_iconst (v := 1) hx hb dL_law_871 (by decide) ?_
  refine lv_iadd hx hb dL_law_872 ?_
  refine k_topi (y := 1) (by decide) ?_
  refine va_sld (xs := xs) hx hb hXs hbl hbA hS (k_in (by decide)) dL_law_873 ?_
  refine k_topi (y := (xs 1)) (congrArg xs (by decide)) ?_
  refine lv_aload_n hx hb dL_law_874 rfl (lv_at hl 0 rfl) ?_
  refine lv_iload hx hb dL_law_875 (lv_at hl 4 rfl) ?_
  refine lv_iconst (v := 2) hx hb dL_law_877 (by decide) ?_
  refine lv_iadd hx hb dL_law_878 ?_
  refine k_topi (y := 2) (by decide) ?_
  refine va_sld (xs := xs) hx hb hXs hbl hbA hS (k_in (by decide)) dL_law_879 ?_
  refine k_topi (y := (xs 2)) (congrArg xs (by decide)) ?_
  refine lv_i2l (v := (Int32.toInt64 (xs 2))) hx hb dL_law_880 rfl ?_
  refine lv_bipush (v := 32) hx hb dL_law_881 (by decide) ?_
  refine lv_lshl (v := ((Int32.toInt64 (xs 2)) <<< (Int32.toInt64 32 &&& 63))) hx hb dL_law_883 rfl ?_
  refine lv_aload_n hx hb dL_law_884 rfl (lv_at hl 0 rfl) ?_
  refine lv_iload hx hb dL_law_885 (lv_at hl 4 rfl) ?_
  refine lv_iconst (v := 3) hx hb dL_law_887 (by decide) ?_
  refine lv_iadd hx hb dL_law_888 ?_
  refine k_topi (y := 3) (by decide) ?_
  refine va_sld (xs := xs) hx hb hXs hbl hbA hS (k_in (by decide)) dL_law_889 ?_
  refine k_topi (y := (xs 3)) (congrArg xs (by decide)) ?_
  refine lv_i2l (v := (Int32.toInt64 (xs 3))) hx hb dL_law_890 rfl ?_
  refine lv_ldc2 (own := RL) (index := 139) (v := 4294967295) hx hb hown (hts (.constantLong RL 139 (4294967295)) (o9_L_law _ (List.mem_of_getElem? (i := 121) rfl))) dL_law_891 ?_
  refine lv_land hx hb dL_law_894 ?_
  refine lv_lor hx hb dL_law_895 ?_
  refine lv_aload_n hx hb dL_law_896 rfl (lv_at hl 0 rfl) ?_
  refine lv_iload hx hb dL_law_897 (lv_at hl 4 rfl) ?_
  refine lv_iconst (v := 4) hx hb dL_law_899 (by decide) ?_
  refine lv_iadd hx hb dL_law_900 ?_
  refine k_topi (y := 4) (by decide) ?_
  refine va_sld (xs := xs) hx hb hXs hbl hbA hS (k_in (by decide)) dL_law_901 ?_
  refine k_topi (y := (xs 4)) (congrArg xs (by decide)) ?_
  refine lv_i2l (v := (Int32.toInt64 (xs 4))) hx hb dL_law_902 rfl ?_
  refine lv_bipush (v := 32) hx hb dL_law_903 (by decide) ?_
  refine lv_lshl (v := ((Int32.toInt64 (xs 4)) <<< (Int32.toInt64 32 &&& 63))) hx hb dL_law_905 rfl ?_
  refine lv_aload_n hx hb dL_law_906 rfl (lv_at hl 0 rfl) ?_
  refine lv_iload hx hb dL_law_907 (lv_at hl 4 rfl) ?_
  refine lv_iconst (v := 5) hx hb dL_law_909 (by decide) ?_
  refine lv_iadd hx hb dL_law_910 ?_
  refine k_topi (y := 5) (by decide) ?_
  refine va_sld (xs := xs) hx hb hXs hbl hbA hS (k_in (by decide)) dL_law_911 ?_
  refine k_topi (y := (xs 5)) (congrArg xs (by decide)) ?_
  refine lv_i2l (v := (Int32.toInt64 (xs 5))) hx hb dL_law_912 rfl ?_
  refine lv_ldc2 (own := RL) (index := 139) (v := 4294967295) hx hb hown (hts (.constantLong RL 139 (4294967295)) (o9_L_law _ (List.mem_of_getElem? (i := 121) rfl))) dL_law_913 ?_
  refine lv_land hx hb dL_law_916 ?_
  refine lv_lor hx hb dL_law_917 ?_
  refine lv_aload_n hx hb dL_law_918 rfl (lv_at hl 0 rfl) ?_
  refine lv_iload hx hb dL_law_919 (lv_at hl 4 rfl) ?_
  refine lv_bipush (v := 6) hx hb dL_law_921 (by decide) ?_
  refine lv_iadd hx hb dL_law_923 ?_
  refine k_topi (y := 6) (by decide) ?_
  refine va_sld (xs := xs) hx hb hXs hbl hbA hS (k_in (by decide)) dL_law_924 ?_
  refine k_topi (y := (xs 6)) (congrArg xs (by decide)) ?_
  refine lv_i2l (v := (Int32.toInt64 (xs 6))) hx hb dL_law_925 rfl ?_
  refine lv_bipush (v := 32) hx hb dL_law_926 (by decide) ?_
  refine lv_lshl (v := ((Int32.toInt64 (xs 6)) <<< (Int32.toInt64 32 &&& 63))) hx hb dL_law_928 rfl ?_
  refine lv_aload_n hx hb dL_law_929 rfl (lv_at hl 0 rfl) ?_
  refine lv_iload hx hb dL_law_930 (lv_at hl 4 rfl) ?_
  refine lv_bipush (v := 7) hx hb dL_law_932 (by decide) ?_
  refine lv_iadd hx hb dL_law_934 ?_
  refine k_topi (y := 7) (by decide) ?_
  refine va_sld (xs := xs) hx hb hXs hbl hbA hS (k_in (by decide)) dL_law_935 ?_
  refine k_topi (y := (xs 7)) (congrArg xs (by decide)) ?_
  refine lv_i2l (v := (Int32.toInt64 (xs 7))) hx hb dL_law_936 rfl ?_
  refine lv_ldc2 (own := RL) (index := 139) (v := 4294967295) hx hb hown (hts (.constantLong RL 139 (4294967295)) (o9_L_law _ (List.mem_of_getElem? (i := 121) rfl))) dL_law_937 ?_
  refine lv_land hx hb dL_law_940 ?_
  refine lv_lor hx hb dL_law_941 ?_
  refine lv_aload_n hx hb dL_law_942 rfl (lv_at hl 0 rfl) ?_
  refine lv_iload hx hb dL_law_943 (lv_at hl 4 rfl) ?_
  refine lv_bipush (v := 8) hx hb dL_law_945 (by decide) ?_
  refine lv_iadd hx hb dL_law_947 ?_
  refine k_topi (y := 8) (by decide) ?_
  refine va_sld (xs := xs) hx hb hXs hbl hbA hS (k_in (by decide)) dL_law_948 ?_
  refine k_topi (y := (xs 8)) (congrArg xs (by decide)) ?_
  refine lv_i2l (v := (Int32.toInt64 (xs 8))) hx hb dL_law_949 rfl ?_
  refine lv_bipush (v := 32) hx hb dL_law_950 (by decide) ?_
  refine lv_lshl (v := ((Int32.toInt64 (xs 8)) <<< (Int32.toInt64 32 &&& 63))) hx hb dL_law_952 rfl ?_
  refine lv_aload_n hx hb dL_law_953 rfl (lv_at hl 0 rfl) ?_
  refine lv_iload hx hb dL_law_954 (lv_at hl 4 rfl) ?_
  refine lv_bipush (v := 9) hx hb dL_law_956 (by decide) ?_
  refine lv_iadd hx hb dL_law_958 ?_
  refine k_topi (y := 9) (by decide) ?_
  refine va_sld (xs := xs) hx hb hXs hbl hbA hS (k_in (by decide)) dL_law_959 ?_
  refine k_topi (y := (xs 9)) (congrArg xs (by decide)) ?_
  refine lv_i2l (v := (Int32.toInt64 (xs 9))) hx hb dL_law_960 rfl ?_
  refine lv_ldc2 (own := RL) (index := 139) (v := 4294967295) hx hb hown (hts (.constantLong RL 139 (4294967295)) (o9_L_law _ (List.mem_of_getElem? (i := 121) rfl))) dL_law_961 ?_
  refine lv_land hx hb dL_law_964 ?_
  refine lv_lor hx hb dL_law_965 ?_
  refine k_cVi (As := [.int (xs 1), .long (((Int32.toInt64 (xs 2)) <<< (Int32.toInt64 32 &&& 63)) ||| ((Int32.toInt64 (xs 3)) &&& 4294967295)), .long (((Int32.toInt64 (xs 4)) <<< (Int32.toInt64 32 &&& 63)) ||| ((Int32.toInt64 (xs 5)) &&& 4294967295)), .long (((Int32.toInt64 (xs 6)) <<< (Int32.toInt64 32 &&& 63)) ||| ((Int32.toInt64 (xs 7)) &&& 4294967295)), .long (((Int32.toInt64 (xs 8)) <<< (Int32.toInt64 32 &&& 63)) ||| ((Int32.toInt64 (xs 9)) &&& 4294967295))]) (rest := []) (wc := [(h0, .inr (11, f0)), (h3, .inr (1, f1)), (h4, .inr (2, f2))]) (wr := [(h1, .inr (12, f3))]) (w1 := [(h0, .inr (11, f0)), (h3, .inr (1, f1)), (h4, .inr (2, f2))]) ⟨hx, hb, hml, hown, hts⟩ hN hX hAE hK hP hD hS hA [0, 1, 2] [3] (ci := 11) rfl rfl rfl rfl (by decide +kernel) (by decide +kernel) (by decide +kernel) (c_X11_holds_0 l E D cI cJ cB cZ h0 (xs 1) (((Int32.toInt64 (xs 2)) <<< (Int32.toInt64 32 &&& 63)) ||| ((Int32.toInt64 (xs 3)) &&& 4294967295)) (((Int32.toInt64 (xs 4)) <<< (Int32.toInt64 32 &&& 63)) ||| ((Int32.toInt64 (xs 5)) &&& 4294967295)) (((Int32.toInt64 (xs 6)) <<< (Int32.toInt64 32 &&& 63)) ||| ((Int32.toInt64 (xs 7)) &&& 4294967295)) (((Int32.toInt64 (xs 8)) <<< (Int32.toInt64 32 &&& 63)) ||| ((Int32.toInt64 (xs 9)) &&& 4294967295)) f0 h3 f1 h4 f2 e0 e1 e2 e3 e4) (cwV 5 hts g9_L_law_X11_holds_141 rfl rfl rfl (by decide +kernel) ⟨Nat.le_of_ble_eq_true rfl, Nat.le_of_ble_eq_true rfl⟩) rfl hl.1 (Nat.le_of_ble_eq_true rfl) dL_law_966 ⟨Nat.le_of_ble_eq_true rfl, Nat.le_of_ble_eq_true rfl⟩ (fun H locs hP hD hS => ?_)
  have hP : va_P D vwCl [(h1, .inr (12, f3)), (h0, .inr (11, f0)), (h3, .inr (1, f1)), (h4, .inr (2, f2))] H := hP
  have hD : va_D A [(h1, .inr (12, f3)), (h0, .inr (11, f0)), (h3, .inr (1, f1)), (h4, .inr (2, f2))] := hD
  refine lv_aload_n hx hb dL_law_969 rfl (lv_at hl 2 rfl) ?_
  refine lv_aload_n hx hb dL_law_970 rfl (lv_at hl 0 rfl) ?_
  refine lv_iload hx hb dL_law_971 (lv_at hl 4 rfl) ?_
  refine lv_iconst (v := 1) hx hb dL_law_973 (by decide) ?_
  refine lv_iadd hx hb dL_law_974 ?_
  refine k_topi (y := 1) (by decide) ?_
  refine va_sld (xs := xs) hx hb hXs hbl hbA hS (k_in (by decide)) dL_law_975 ?_
  refine k_topi (y := (xs 1)) (congrArg xs (by decide)) ?_
  refine lv_aload_n hx hb dL_law_976 rfl (lv_at hl 0 rfl) ?_
  refine lv_iload hx hb dL_law_977 (lv_at hl 4 rfl) ?_
  refine lv_iconst (v := 2) hx hb dL_law_979 (by decide) ?_
  refine lv_iadd hx hb dL_law_980 ?_
  refine k_topi (y := 2) (by decide) ?_
  refine va_sld (xs := xs) hx hb hXs hbl hbA hS (k_in (by decide)) dL_law_981 ?_
  refine k_topi (y := (xs 2)) (congrArg xs (by decide)) ?_
  refine lv_i2l (v := (Int32.toInt64 (xs 2))) hx hb dL_law_982 rfl ?_
  refine lv_bipush (v := 32) hx hb dL_law_983 (by decide) ?_
  refine lv_lshl (v := ((Int32.toInt64 (xs 2)) <<< (Int32.toInt64 32 &&& 63))) hx hb dL_law_985 rfl ?_
  refine lv_aload_n hx hb dL_law_986 rfl (lv_at hl 0 rfl) ?_
  refine lv_iload hx hb dL_law_987 (lv_at hl 4 rfl) ?_
  refine lv_iconst (v := 3) hx hb dL_law_989 (by decide) ?_
  refine lv_iadd hx hb dL_law_990 ?_
  refine k_topi (y := 3) (by decide) ?_
  refine va_sld (xs := xs) hx hb hXs hbl hbA hS (k_in (by decide)) dL_law_991 ?_
  refine k_topi (y := (xs 3)) (congrArg xs (by decide)) ?_
  refine lv_i2l (v := (Int32.toInt64 (xs 3))) hx hb dL_law_992 rfl ?_
  refine lv_ldc2 (own := RL) (index := 139) (v := 4294967295) hx hb hown (hts (.constantLong RL 139 (4294967295)) (o9_L_law _ (List.mem_of_getElem? (i := 121) rfl))) dL_law_993 ?_
  refine lv_land hx hb dL_law_996 ?_
  refine lv_lor hx hb dL_law_997 ?_
  refine lv_aload_n hx hb dL_law_998 rfl (lv_at hl 0 rfl) ?_
  refine lv_iload hx hb dL_law_999 (lv_at hl 4 rfl) ?_
  refine lv_iconst (v := 4) hx hb dL_law_1001 (by decide) ?_
  refine lv_iadd hx hb dL_law_1002 ?_
  refine k_topi (y := 4) (by decide) ?_
  refine va_sld (xs := xs) hx hb hXs hbl hbA hS (k_in (by decide)) dL_law_1003 ?_
  refine k_topi (y := (xs 4)) (congrArg xs (by decide)) ?_
  refine lv_i2l (v := (Int32.toInt64 (xs 4))) hx hb dL_law_1004 rfl ?_
  refine lv_bipush (v := 32) hx hb dL_law_1005 (by decide) ?_
  refine lv_lshl (v := ((Int32.toInt64 (xs 4)) <<< (Int32.toInt64 32 &&& 63))) hx hb dL_law_1007 rfl ?_
  refine lv_aload_n hx hb dL_law_1008 rfl (lv_at hl 0 rfl) ?_
  refine lv_iload hx hb dL_law_1009 (lv_at hl 4 rfl) ?_
  refine lv_iconst (v := 5) hx hb dL_law_1011 (by decide) ?_
  refine lv_iadd hx hb dL_law_1012 ?_
  refine k_topi (y := 5) (by decide) ?_
  refine va_sld (xs := xs) hx hb hXs hbl hbA hS (k_in (by decide)) dL_law_1013 ?_
  refine k_topi (y := (xs 5)) (congrArg xs (by decide)) ?_
  refine lv_i2l (v := (Int32.toInt64 (xs 5))) hx hb dL_law_1014 rfl ?_
  refine lv_ldc2 (own := RL) (index := 139) (v := 4294967295) hx hb hown (hts (.constantLong RL 139 (4294967295)) (o9_L_law _ (List.mem_of_getElem? (i := 121) rfl))) dL_law_1015 ?_
  refine lv_land hx hb dL_law_1018 ?_
  refine lv_lor hx hb dL_law_1019 ?_
  refine lv_aload_n hx hb dL_law_1020 rfl (lv_at hl 0 rfl) ?_
  refine lv_iload hx hb dL_law_1021 (lv_at hl 4 rfl) ?_
  refine lv_bipush (v := 6) hx hb dL_law_1023 (by decide) ?_
  refine lv_iadd hx hb dL_law_1025 ?_
  refine k_topi (y := 6) (by decide) ?_
  refine va_sld (xs := xs) hx hb hXs hbl hbA hS (k_in (by decide)) dL_law_1026 ?_
  refine k_topi (y := (xs 6)) (congrArg xs (by decide)) ?_
  refine lv_i2l (v := (Int32.toInt64 (xs 6))) hx hb dL_law_1027 rfl ?_
  refine lv_bipush (v := 32) hx hb dL_law_1028 (by decide) ?_
  refine lv_lshl (v := ((Int32.toInt64 (xs 6)) <<< (Int32.toInt64 32 &&& 63))) hx hb dL_law_1030 rfl ?_
  refine lv_aload_n hx hb dL_law_1031 rfl (lv_at hl 0 rfl) ?_
  refine lv_iload hx hb dL_law_1032 (lv_at hl 4 rfl) ?_
  refine lv_bipush (v := 7) hx hb dL_law_1034 (by decide) ?_
  refine lv_iadd hx hb dL_law_1036 ?_
  refine k_topi (y := 7) (by decide) ?_
  refine va_sld (xs := xs) hx hb hXs hbl hbA hS (k_in (by decide)) dL_law_1037 ?_
  refine k_topi (y := (xs 7)) (congrArg xs (by decide)) ?_
  refine lv_i2l (v := (Int32.toInt64 (xs 7))) hx hb dL_law_1038 rfl ?_
  refine lv_ldc2 (own := RL) (index := 139) (v := 4294967295) hx hb hown (hts (.constantLong RL 139 (4294967295)) (o9_L_law _ (List.mem_of_getElem? (i := 121) rfl))) dL_law_1039 ?_
  refine lv_land hx hb dL_law_1042 ?_
  refine lv_lor hx hb dL_law_1043 ?_
  refine lv_aload_n hx hb dL_law_1044 rfl (lv_at hl 0 rfl) ?_
  refine lv_iload hx hb dL_law_1045 (lv_at hl 4 rfl) ?_
  refine lv_bipush (v := 8) hx hb dL_law_1047 (by decide) ?_
  refine lv_iadd hx hb dL_law_1049 ?_
  refine k_topi (y := 8) (by decide) ?_
  refine va_sld (xs := xs) hx hb hXs hbl hbA hS (k_in (by decide)) dL_law_1050 ?_
  refine k_topi (y := (xs 8)) (congrArg xs (by decide)) ?_
  refine lv_i2l (v := (Int32.toInt64 (xs 8))) hx hb dL_law_1051 rfl ?_
  refine lv_bipush (v := 32) hx hb dL_law_1052 (by decide) ?_
  refine lv_lshl (v := ((Int32.toInt64 (xs 8)) <<< (Int32.toInt64 32 &&& 63))) hx hb dL_law_1054 rfl ?_
  refine lv_aload_n hx hb dL_law_1055 rfl (lv_at hl 0 rfl) ?_
  refine lv_iload hx hb dL_law_1056 (lv_at hl 4 rfl) ?_
  refine lv_bipush (v := 9) hx hb dL_law_1058 (by decide) ?_
  refine lv_iadd hx hb dL_law_1060 ?_
  refine k_topi (y := 9) (by decide) ?_
  refine va_sld (xs := xs) hx hb hXs hbl hbA hS (k_in (by decide)) dL_law_1061 ?_
  refine k_topi (y := (xs 9)) (congrArg xs (by decide)) ?_
  refine lv_i2l (v := (Int32.toInt64 (xs 9))) hx hb dL_law_1062 rfl ?_
  refine lv_ldc2 (own := RL) (index := 139) (v := 4294967295) hx hb hown (hts (.constantLong RL 139 (4294967295)) (o9_L_law _ (List.mem_of_getElem? (i := 121) rfl))) dL_law_1063 ?_
  refine lv_land hx hb dL_law_1066 ?_
  refine lv_lor hx hb dL_law_1067 ?_
  refine k_cVi (As := [.int (xs 1), .long (((Int32.toInt64 (xs 2)) <<< (Int32.toInt64 32 &&& 63)) ||| ((Int32.toInt64 (xs 3)) &&& 4294967295)), .long (((Int32.toInt64 (xs 4)) <<< (Int32.toInt64 32 &&& 63)) ||| ((Int32.toInt64 (xs 5)) &&& 4294967295)), .long (((Int32.toInt64 (xs 6)) <<< (Int32.toInt64 32 &&& 63)) ||| ((Int32.toInt64 (xs 7)) &&& 4294967295)), .long (((Int32.toInt64 (xs 8)) <<< (Int32.toInt64 32 &&& 63)) ||| ((Int32.toInt64 (xs 9)) &&& 4294967295))]) (rest := [.int (-101)]) (wc := [(h1, .inr (12, f3))]) (wr := [(h0, .inr (11, f0)), (h3, .inr (1, f1)), (h4, .inr (2, f2))]) (w1 := [(h1, .inr (12, (f3.set 0 (.int 0))))]) ⟨hx, hb, hml, hown, hts⟩ hN hX hAE hK hP hD hS hA [0] [1, 2, 3] (ci := 12) rfl rfl rfl rfl (by decide +kernel) (by decide +kernel) (by decide +kernel) (c_X12_holds_0 l E D cI cJ cB cZ h1 (xs 1) (((Int32.toInt64 (xs 2)) <<< (Int32.toInt64 32 &&& 63)) ||| ((Int32.toInt64 (xs 3)) &&& 4294967295)) (((Int32.toInt64 (xs 4)) <<< (Int32.toInt64 32 &&& 63)) ||| ((Int32.toInt64 (xs 5)) &&& 4294967295)) (((Int32.toInt64 (xs 6)) <<< (Int32.toInt64 32 &&& 63)) ||| ((Int32.toInt64 (xs 7)) &&& 4294967295)) (((Int32.toInt64 (xs 8)) <<< (Int32.toInt64 32 &&& 63)) ||| ((Int32.toInt64 (xs 9)) &&& 4294967295)) f3 e5 e6 e7 e3) (cwV 5 hts g9_L_law_X12_holds_145 rfl rfl rfl (by decide +kernel) ⟨Nat.le_of_ble_eq_true rfl, Nat.le_of_ble_eq_true rfl⟩) rfl hl.1 (Nat.le_of_ble_eq_true rfl) dL_law_1068 ⟨Nat.le_of_ble_eq_true rfl, Nat.le_of_ble_eq_true rfl⟩ (fun H locs hP hD hS => ?_)
  have hP : va_P D vwCl [(h0, .inr (11, f0)), (h3, .inr (1, f1)), (h4, .inr (2, f2)), (h1, .inr (12, (f3.set 0 (.int 0))))] H := hP
  have hD : va_D A [(h0, .inr (11, f0)), (h3, .inr (1, f1)), (h4, .inr (2, f2)), (h1, .inr (12, (f3.set 0 (.int 0))))] := hD
  refine lv_icmp_eq (tgt := 1765) hx hb dL_law_1071 (by decide) (fun _ => ?_) (fun c9 => absurd (by decide) c9)
  refine W.widen (k := 600002) (n := 7302232) (Nat.le_of_ble_eq_true rfl) (Nat.le_of_ble_eq_true rfl) ?_
  exact T9 _ _ _ hS (lv_sub hl [0, 4] rfl)
