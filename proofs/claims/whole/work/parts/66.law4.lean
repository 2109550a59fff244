/-! THE LAW: its cases -/
set_option maxHeartbeats 4000000 in
set_option maxRecDepth 100000 in
theorem law_feed {p : Program} {e : Env} {s : State} {m : MethodId} {args : Array Value} {below : List Frame} {meth : Method} {c : Code} {H : Heap} {locs : List Loc} {cells slots : Nat} {Q : State → Prop} {x : zX} {A : Nat → Prop} {ls : Array Slot} {sc L i : Nat} {xs : Nat → Int32} {b : Nat → Nat} {t : Nat → Nat → Nat} {a : Nat → Nat} {u : va_W} (C : zCx x p s m args c A sc L xs cells slots) (hi : i + 6 ≤ L) (hl : lv_has ls 4 [(3, .int (nI i)), (2, .ref (a 0)), (1, .ref (b 0)), (0, .ref sc)]) (hu : zLaw x b t a u) (hw : zHw x A s.heap u H locs) (kk : ∀ (u : va_W) (H : Heap) (locs : List Loc), zLaw x b t a u → zHw x A s.heap u H locs → W p x.1 e room_1 s m args below meth c H locs cells slots Q (F0 m 1315 ls [])) : W p x.1 e room_1 s m args below meth c H locs cells slots Q (F0 m 902 ls []) := by
  obtain ⟨hx, hb, hml, hown, hts, hK, hE, hA, hX, hcl⟩ := C
  obtain ⟨S, l0, T, l1, K, l2, tq, nn, q, g, mv, n, rfl, hI, hS, hk, h1, h2, h3⟩ := hu
  refine lv_aload_n hx hb dL_law_902 rfl (lv_at hl 2 rfl) ?_
  refine zarg 1 hx hb hX hw.S hi hl (by decide) (by decide) dL_law_903 dL_law_904 dL_law_905 dL_law_906 dL_law_907 ?_
  refine zarg 2 hx hb hX hw.S hi hl (by decide) (by decide) dL_law_908 dL_law_909 dL_law_910 dL_law_911 dL_law_912 ?_
  refine zcVL hx hb hml hown hts hl.1 hK hE hA lkL_113 (c_X5_feed x b t S l0 T l1 K l2 (q 0) (g 5) (g 6) tq (g 7) (g 8) nn (xs (i + 1)) (xs (i + 2)) n h1 h3) ⟨Nat.le_of_ble_eq_true rfl, Nat.le_of_ble_eq_true rfl⟩ hcl hw 0 3 rfl rfl rfl rfl (Nat.le_of_ble_eq_true rfl) dL_law_913 (fun vv uu H locs hp hw => ?_)
  obtain ⟨rfl, tq2, hq1, rfl⟩ := hp
  refine W.eq (g2 := F0 m 916 ls [.int (zm_feed (g 6) n (g 5) (xs (i + 1)) (xs (i + 2))).1]) rfl ?_
  refine lv_aload_n hx hb dL_law_916 rfl (lv_at hl 1 rfl) ?_
  refine zarg 1 hx hb hX hw.S hi hl (by decide) (by decide) dL_law_917 dL_law_918 dL_law_919 dL_law_920 dL_law_921 ?_
  refine zarg 2 hx hb hX hw.S hi hl (by decide) (by decide) dL_law_922 dL_law_923 dL_law_924 dL_law_925 dL_law_926 ?_
  refine zcVR hx hb hml hown hts hl.1 hK hE hA lkL_116 (c_X6_feed x a q g (zNM nn mv) S (xs (i + 1)) (xs (i + 2)) n h2 h3) ⟨Nat.le_of_ble_eq_true rfl, Nat.le_of_ble_eq_true rfl⟩ hcl hw 0 4 rfl rfl rfl rfl (Nat.le_of_ble_eq_true rfl) dL_law_927 (fun vv uu H locs hp hw => ?_)
  obtain ⟨rfl, q2, hq2, hq3, rfl⟩ := hp
  refine W.eq (g2 := F0 m 930 ls [.int (zm_feed (g 6) n (g 5) (xs (i + 1)) (xs (i + 2))).1, .int (zm_feed (g 6) n (g 5) (xs (i + 1)) (xs (i + 2))).1]) rfl ?_
  refine lv_icmp_eq (tgt := 1315) hx hb dL_law_930 (by decide) (fun _ => ?_) (fun hc => absurd rfl hc)
  exact kk _ _ _ (zLaw.feed hI hS hk (hq3 0 (by decide)) hq1 hq2 (zm_feed_n h3)) hw

set_option maxHeartbeats 4000000 in
set_option maxRecDepth 100000 in
theorem law_wipe {p : Program} {e : Env} {s : State} {m : MethodId} {args : Array Value} {below : List Frame} {meth : Method} {c : Code} {H : Heap} {locs : List Loc} {cells slots : Nat} {Q : State → Prop} {x : zX} {A : Nat → Prop} {ls : Array Slot} {sc L i : Nat} {xs : Nat → Int32} {b : Nat → Nat} {t : Nat → Nat → Nat} {a : Nat → Nat} {u : va_W} (C : zCx x p s m args c A sc L xs cells slots) (hi : i + 6 ≤ L) (hl : lv_has ls 4 [(3, .int (nI i)), (2, .ref (a 0)), (1, .ref (b 0)), (0, .ref sc)]) (hu : zLaw x b t a u) (hw : zHw x A s.heap u H locs) (kk : ∀ (u : va_W) (H : Heap) (locs : List Loc), zLaw x b t a u → zHw x A s.heap u H locs → W p x.1 e room_1 s m args below meth c H locs cells slots Q (F0 m 1315 ls [])) : W p x.1 e room_1 s m args below meth c H locs cells slots Q (F0 m 935 ls []) := by
  obtain ⟨hx, hb, hml, hown, hts, hK, hE, hA, hX, hcl⟩ := C
  obtain ⟨S, l0, T, l1, K, l2, tq, nn, q, g, mv, n, rfl, hI, hS, hk, h1, h2, h3⟩ := hu
  refine lv_aload_n hx hb dL_law_935 rfl (lv_at hl 2 rfl) ?_
  refine zcVL hx hb hml hown hts hl.1 hK hE hA lkL_117 (c_X5_wipe x b t S l0 T l1 K l2 (q 0) (g 5) (g 6) tq (g 7) (g 8) nn) ⟨Nat.le_of_ble_eq_true rfl, Nat.le_of_ble_eq_true rfl⟩ hcl hw 0 3 rfl rfl rfl rfl (Nat.le_of_ble_eq_true rfl) dL_law_936 (fun vv uu H locs hp hw => ?_)
  obtain ⟨rfl, rfl⟩ := hp
  refine W.eq (g2 := F0 m 939 ls [.int (tq 0)]) rfl ?_
  refine lv_aload_n hx hb dL_law_939 rfl (lv_at hl 1 rfl) ?_
  refine zcVR hx hb hml hown hts hl.1 hK hE hA lkL_120 (c_X6_wipe x a q g (zNM nn mv) S) ⟨Nat.le_of_ble_eq_true rfl, Nat.le_of_ble_eq_true rfl⟩ hcl hw 0 4 rfl rfl rfl rfl (Nat.le_of_ble_eq_true rfl) dL_law_940 (fun vv uu H locs hp hw => ?_)
  obtain ⟨rfl, rfl⟩ := hp
  refine W.eq (g2 := F0 m 943 ls [.int (q 1), .int (tq 0)]) rfl ?_
  refine lv_icmp_eq (tgt := 1315) hx hb dL_law_943 (by decide) (fun _ => ?_) (fun hc => absurd (h1.trans h2.symm) hc)
  exact kk _ _ _ (zLaw.wipe hI hS hk) hw

set_option maxHeartbeats 4000000 in
set_option maxRecDepth 100000 in
theorem law_text {p : Program} {e : Env} {s : State} {m : MethodId} {args : Array Value} {below : List Frame} {meth : Method} {c : Code} {H : Heap} {locs : List Loc} {cells slots : Nat} {Q : State → Prop} {x : zX} {A : Nat → Prop} {ls : Array Slot} {sc L i : Nat} {xs : Nat → Int32} {b : Nat → Nat} {t : Nat → Nat → Nat} {a : Nat → Nat} {u : va_W} (C : zCx x p s m args c A sc L xs cells slots) (hi : i + 6 ≤ L) (hl : lv_has ls 4 [(3, .int (nI i)), (2, .ref (a 0)), (1, .ref (b 0)), (0, .ref sc)]) (hu : zLaw x b t a u) (hw : zHw x A s.heap u H locs) (kk : ∀ (u : va_W) (H : Heap) (locs : List Loc), zLaw x b t a u → zHw x A s.heap u H locs → W p x.1 e room_1 s m args below meth c H locs cells slots Q (F0 m 1315 ls [])) : W p x.1 e room_1 s m args below meth c H locs cells slots Q (F0 m 948 ls []) := by
  obtain ⟨hx, hb, hml, hown, hts, hK, hE, hA, hX, hcl⟩ := C
  obtain ⟨S, l0, T, l1, K, l2, tq, nn, q, g, mv, n, rfl, hI, hS, hk, h1, h2, h3⟩ := hu
  refine lv_aload_n hx hb dL_law_948 rfl (lv_at hl 2 rfl) ?_
  refine zcVL hx hb hml hown hts hl.1 hK hE hA lkL_121 (c_X5_text x b t S l0 T l1 K l2 (q 0) (g 5) (g 6) tq (g 7) (g 8) nn n h1 h3 hI) ⟨Nat.le_of_ble_eq_true rfl, Nat.le_of_ble_eq_true rfl⟩ hcl hw 0 3 rfl rfl rfl rfl (Nat.le_of_ble_eq_true rfl) dL_law_949 (fun vv uu H locs hp hw => ?_)
  obtain ⟨rfl, l0, T, l1, tq2, hq1, rfl⟩ := hp
  refine W.eq (g2 := F0 m 952 ls [.int (zm_text (g 6) n S).1]) rfl ?_
  refine lv_aload_n hx hb dL_law_952 rfl (lv_at hl 1 rfl) ?_
  refine zcVR hx hb hml hown hts hl.1 hK hE hA lkL_124 (c_X6_text x a q g (zNM nn mv) S n h2 h3 hI) ⟨Nat.le_of_ble_eq_true rfl, Nat.le_of_ble_eq_true rfl⟩ hcl hw 0 4 rfl rfl rfl rfl (Nat.le_of_ble_eq_true rfl) dL_law_953 (fun vv uu H locs hp hw => ?_)
  obtain ⟨rfl, q2, f3, hq0, hq2, rfl⟩ := hp
  refine W.eq (g2 := F0 m 956 ls [.int (zm_text (g 6) n S).1, .int (zm_text (g 6) n S).1]) rfl ?_
  refine lv_icmp_eq (tgt := 1315) hx hb dL_law_956 (by decide) (fun _ => ?_) (fun hc => absurd rfl hc)
  exact kk _ _ _ (zLaw.text (zm_text_inv h3 hI) hS hk hq0 hq1 hq2) hw

set_option maxHeartbeats 4000000 in
set_option maxRecDepth 100000 in
theorem law_sheet {p : Program} {e : Env} {s : State} {m : MethodId} {args : Array Value} {below : List Frame} {meth : Method} {c : Code} {H : Heap} {locs : List Loc} {cells slots : Nat} {Q : State → Prop} {x : zX} {A : Nat → Prop} {ls : Array Slot} {sc L i : Nat} {xs : Nat → Int32} {b : Nat → Nat} {t : Nat → Nat → Nat} {a : Nat → Nat} {u : va_W} (C : zCx x p s m args c A sc L xs cells slots) (hi : i + 6 ≤ L) (hl : lv_has ls 4 [(3, .int (nI i)), (2, .ref (a 0)), (1, .ref (b 0)), (0, .ref sc)]) (hu : zLaw x b t a u) (hw : zHw x A s.heap u H locs) (kk : ∀ (u : va_W) (H : Heap) (locs : List Loc), zLaw x b t a u → zHw x A s.heap u H locs → W p x.1 e room_1 s m args below meth c H locs cells slots Q (F0 m 1315 ls [])) : W p x.1 e room_1 s m args below meth c H locs cells slots Q (F0 m 961 ls []) := by
  obtain ⟨hx, hb, hml, hown, hts, hK, hE, hA, hX, hcl⟩ := C
  obtain ⟨S, l0, T, l1, K, l2, tq, nn, q, g, mv, n, rfl, hI, hS, hk, h1, h2, h3⟩ := hu
  refine lv_aload_n hx hb dL_law_961 rfl (lv_at hl 2 rfl) ?_
  refine zarg 1 hx hb hX hw.S hi hl (by decide) (by decide) dL_law_962 dL_law_963 dL_law_964 dL_law_965 dL_law_966 ?_
  refine zarg 2 hx hb hX hw.S hi hl (by decide) (by decide) dL_law_967 dL_law_968 dL_law_969 dL_law_970 dL_law_971 ?_
  refine zarg 3 hx hb hX hw.S hi hl (by decide) (by decide) dL_law_972 dL_law_973 dL_law_974 dL_law_975 dL_law_976 ?_
  refine zcVL hx hb hml hown hts hl.1 hK hE hA lkL_125 (c_X5_sheet x b t S l0 T l1 K l2 (q 0) (g 5) (g 6) tq (g 7) (g 8) nn (xs (i + 1)) (xs (i + 2)) (xs (i + 3)) ) ⟨Nat.le_of_ble_eq_true rfl, Nat.le_of_ble_eq_true rfl⟩ hcl hw 0 3 rfl rfl rfl rfl (Nat.le_of_ble_eq_true rfl) dL_law_977 (fun vv uu H locs hp hw => ?_)
  obtain ⟨rfl, rfl⟩ := hp
  refine W.eq (g2 := F0 m 980 ls [.int (zm_sheet (g 7) (g 8) nn (g 5) (xs (i + 1)) (xs (i + 2)) (xs (i + 3))).1]) rfl ?_
  refine lv_aload_n hx hb dL_law_980 rfl (lv_at hl 1 rfl) ?_
  refine zarg 1 hx hb hX hw.S hi hl (by decide) (by decide) dL_law_981 dL_law_982 dL_law_983 dL_law_984 dL_law_985 ?_
  refine zarg 2 hx hb hX hw.S hi hl (by decide) (by decide) dL_law_986 dL_law_987 dL_law_988 dL_law_989 dL_law_990 ?_
  refine zarg 3 hx hb hX hw.S hi hl (by decide) (by decide) dL_law_991 dL_law_992 dL_law_993 dL_law_994 dL_law_995 ?_
  refine zcVR hx hb hml hown hts hl.1 hK hE hA lkL_128 (c_X6_sheet x a q g nn mv S (xs (i + 1)) (xs (i + 2)) (xs (i + 3)) ) ⟨Nat.le_of_ble_eq_true rfl, Nat.le_of_ble_eq_true rfl⟩ hcl hw 0 4 rfl rfl rfl rfl (Nat.le_of_ble_eq_true rfl) dL_law_996 (fun vv uu H locs hp hw => ?_)
  obtain ⟨rfl, F, mv, rfl⟩ := hp
  refine W.eq (g2 := F0 m 999 ls [.int (zm_sheet (g 7) (g 8) nn (g 5) (xs (i + 1)) (xs (i + 2)) (xs (i + 3))).1, .int (zm_sheet (g 7) (g 8) nn (g 5) (xs (i + 1)) (xs (i + 2)) (xs (i + 3))).1]) rfl ?_
  refine lv_icmp_eq (tgt := 1315) hx hb dL_law_999 (by decide) (fun _ => ?_) (fun hc => absurd rfl hc)
  exact kk _ _ _ (zLaw.sh (hI) (zm_sheet_si hS _ _ _ _ _) hk h1 h2 h3) hw

set_option maxHeartbeats 4000000 in
set_option maxRecDepth 100000 in
theorem law_write {p : Program} {e : Env} {s : State} {m : MethodId} {args : Array Value} {below : List Frame} {meth : Method} {c : Code} {H : Heap} {locs : List Loc} {cells slots : Nat} {Q : State → Prop} {x : zX} {A : Nat → Prop} {ls : Array Slot} {sc L i : Nat} {xs : Nat → Int32} {b : Nat → Nat} {t : Nat → Nat → Nat} {a : Nat → Nat} {u : va_W} (C : zCx x p s m args c A sc L xs cells slots) (hi : i + 6 ≤ L) (hl : lv_has ls 4 [(3, .int (nI i)), (2, .ref (a 0)), (1, .ref (b 0)), (0, .ref sc)]) (hu : zLaw x b t a u) (hw : zHw x A s.heap u H locs) (kk : ∀ (u : va_W) (H : Heap) (locs : List Loc), zLaw x b t a u → zHw x A s.heap u H locs → W p x.1 e room_1 s m args below meth c H locs cells slots Q (F0 m 1315 ls [])) : W p x.1 e room_1 s m args below meth c H locs cells slots Q (F0 m 1004 ls []) := by
  obtain ⟨hx, hb, hml, hown, hts, hK, hE, hA, hX, hcl⟩ := C
  obtain ⟨S, l0, T, l1, K, l2, tq, nn, q, g, mv, n, rfl, hI, hS, hk, h1, h2, h3⟩ := hu
  refine lv_aload_n hx hb dL_law_1004 rfl (lv_at hl 2 rfl) ?_
  refine zarg 1 hx hb hX hw.S hi hl (by decide) (by decide) dL_law_1005 dL_law_1006 dL_law_1007 dL_law_1008 dL_law_1009 ?_
  refine zarg 2 hx hb hX hw.S hi hl (by decide) (by decide) dL_law_1010 dL_law_1011 dL_law_1012 dL_law_1013 dL_law_1014 ?_
  refine zarg 3 hx hb hX hw.S hi hl (by decide) (by decide) dL_law_1015 dL_law_1016 dL_law_1017 dL_law_1018 dL_law_1019 ?_
  refine lv_i2l hx hb dL_law_1020 rfl ?_
  refine lv_bipush (v := 32) hx hb dL_law_1021 (by decide) ?_
  refine lv_lshl hx hb dL_law_1023 rfl ?_
  refine zarg 4 hx hb hX hw.S hi hl (by decide) (by decide) dL_law_1024 dL_law_1025 dL_law_1026 dL_law_1027 dL_law_1028 ?_
  refine lv_i2l hx hb dL_law_1029 rfl ?_
  refine lv_ldc2 (v := 4294967295) hx hb hown (hts _ ckL_129) dL_law_1030 ?_
  refine lv_land hx hb dL_law_1033 ?_
  refine lv_lor hx hb dL_law_1034 ?_
  refine zcVL hx hb hml hown hts hl.1 hK hE hA lkL_131 (c_X5_write x b t S l0 T l1 K l2 (q 0) (g 5) (g 6) tq (g 7) (g 8) nn (xs (i + 1)) (xs (i + 2)) ((((xs (i + 3)).toInt64) <<< ((32 : Int32).toInt64 &&& 63)) ||| (((xs (i + 4)).toInt64) &&& 4294967295)) hS) ⟨Nat.le_of_ble_eq_true rfl, Nat.le_of_ble_eq_true rfl⟩ hcl hw 0 3 rfl rfl rfl rfl (Nat.le_of_ble_eq_true rfl) dL_law_1035 (fun vv uu H locs hp hw => ?_)
  obtain ⟨rfl, rfl⟩ := hp
  refine W.eq (g2 := F0 m 1038 ls [.long (zm_write (g 7) (g 8) nn (g 5) (xs (i + 1)) (xs (i + 2)) ((((xs (i + 3)).toInt64) <<< ((32 : Int32).toInt64 &&& 63)) ||| (((xs (i + 4)).toInt64) &&& 4294967295))).1]) rfl ?_
  refine lv_aload_n hx hb dL_law_1038 rfl (lv_at hl 1 rfl) ?_
  refine zarg 1 hx hb hX hw.S hi hl (by decide) (by decide) dL_law_1039 dL_law_1040 dL_law_1041 dL_law_1042 dL_law_1043 ?_
  refine zarg 2 hx hb hX hw.S hi hl (by decide) (by decide) dL_law_1044 dL_law_1045 dL_law_1046 dL_law_1047 dL_law_1048 ?_
  refine zarg 3 hx hb hX hw.S hi hl (by decide) (by decide) dL_law_1049 dL_law_1050 dL_law_1051 dL_law_1052 dL_law_1053 ?_
  refine lv_i2l hx hb dL_law_1054 rfl ?_
  refine lv_bipush (v := 32) hx hb dL_law_1055 (by decide) ?_
  refine lv_lshl hx hb dL_law_1057 rfl ?_
  refine zarg 4 hx hb hX hw.S hi hl (by decide) (by decide) dL_law_1058 dL_law_1059 dL_law_1060 dL_law_1061 dL_law_1062 ?_
  refine lv_i2l hx hb dL_law_1063 rfl ?_
  refine lv_ldc2 (v := 4294967295) hx hb hown (hts _ ckL_129) dL_law_1064 ?_
  refine lv_land hx hb dL_law_1067 ?_
  refine lv_lor hx hb dL_law_1068 ?_
  refine zcVR hx hb hml hown hts hl.1 hK hE hA lkL_135 (c_X6_write x a q g nn mv S (xs (i + 1)) (xs (i + 2)) ((((xs (i + 3)).toInt64) <<< ((32 : Int32).toInt64 &&& 63)) ||| (((xs (i + 4)).toInt64) &&& 4294967295)) hS) ⟨Nat.le_of_ble_eq_true rfl, Nat.le_of_ble_eq_true rfl⟩ hcl hw 0 4 rfl rfl rfl rfl (Nat.le_of_ble_eq_true rfl) dL_law_1069 (fun vv uu H locs hp hw => ?_)
  obtain ⟨rfl, F, mv, rfl⟩ := hp
  refine W.eq (g2 := F0 m 1072 ls [.long (zm_write (g 7) (g 8) nn (g 5) (xs (i + 1)) (xs (i + 2)) ((((xs (i + 3)).toInt64) <<< ((32 : Int32).toInt64 &&& 63)) ||| (((xs (i + 4)).toInt64) &&& 4294967295))).1, .long (zm_write (g 7) (g 8) nn (g 5) (xs (i + 1)) (xs (i + 2)) ((((xs (i + 3)).toInt64) <<< ((32 : Int32).toInt64 &&& 63)) ||| (((xs (i + 4)).toInt64) &&& 4294967295))).1]) rfl ?_
  refine W.lcmp hx hb dL_law_1072 ?_
  refine lv_if_eq (tgt := 1315) hx hb dL_law_1073 (by decide) (fun _ => ?_) (fun hc => absurd ((lg_cmp_eq _ _).mpr rfl) hc)
  exact kk _ _ _ (zLaw.sh (hI) (hS) hk h1 h2 h3) hw

set_option maxHeartbeats 4000000 in
set_option maxRecDepth 100000 in
theorem law_copy {p : Program} {e : Env} {s : State} {m : MethodId} {args : Array Value} {below : List Frame} {meth : Method} {c : Code} {H : Heap} {locs : List Loc} {cells slots : Nat} {Q : State → Prop} {x : zX} {A : Nat → Prop} {ls : Array Slot} {sc L i : Nat} {xs : Nat → Int32} {b : Nat → Nat} {t : Nat → Nat → Nat} {a : Nat → Nat} {u : va_W} (C : zCx x p s m args c A sc L xs cells slots) (hi : i + 6 ≤ L) (hl : lv_has ls 4 [(3, .int (nI i)), (2, .ref (a 0)), (1, .ref (b 0)), (0, .ref sc)]) (hu : zLaw x b t a u) (hw : zHw x A s.heap u H locs) (kk : ∀ (u : va_W) (H : Heap) (locs : List Loc), zLaw x b t a u → zHw x A s.heap u H locs → W p x.1 e room_1 s m args below meth c H locs cells slots Q (F0 m 1315 ls [])) : W p x.1 e room_1 s m args below meth c H locs cells slots Q (F0 m 1078 ls []) := by
  obtain ⟨hx, hb, hml, hown, hts, hK, hE, hA, hX, hcl⟩ := C
  obtain ⟨S, l0, T, l1, K, l2, tq, nn, q, g, mv, n, rfl, hI, hS, hk, h1, h2, h3⟩ := hu
  refine lv_aload_n hx hb dL_law_1078 rfl (lv_at hl 2 rfl) ?_
  refine zarg 1 hx hb hX hw.S hi hl (by decide) (by decide) dL_law_1079 dL_law_1080 dL_law_1081 dL_law_1082 dL_law_1083 ?_
  refine zarg 2 hx hb hX hw.S hi hl (by decide) (by decide) dL_law_1084 dL_law_1085 dL_law_1086 dL_law_1087 dL_law_1088 ?_
  refine zarg 3 hx hb hX hw.S hi hl (by decide) (by decide) dL_law_1089 dL_law_1090 dL_law_1091 dL_law_1092 dL_law_1093 ?_
  refine zarg 4 hx hb hX hw.S hi hl (by decide) (by decide) dL_law_1094 dL_law_1095 dL_law_1096 dL_law_1097 dL_law_1098 ?_
  refine zarg 5 hx hb hX hw.S hi hl (by decide) (by decide) dL_law_1099 dL_law_1100 dL_law_1101 dL_law_1102 dL_law_1103 ?_
  refine zcVL hx hb hml hown hts hl.1 hK hE hA lkL_136 (c_X5_copy x b t S l0 T l1 K l2 (q 0) (g 5) (g 6) tq (g 7) (g 8) nn (xs (i + 1)) (xs (i + 2)) (xs (i + 3)) (xs (i + 4)) (xs (i + 5)) hS) ⟨Nat.le_of_ble_eq_true rfl, Nat.le_of_ble_eq_true rfl⟩ hcl hw 0 3 rfl rfl rfl rfl (Nat.le_of_ble_eq_true rfl) dL_law_1104 (fun vv uu H locs hp hw => ?_)
  obtain ⟨rfl, rfl⟩ := hp
  refine W.eq (g2 := F0 m 1107 ls [.int (zm_copy (g 7) (g 8) nn (g 5) (xs (i + 1)) (xs (i + 2)) (xs (i + 3)) (xs (i + 4)) (xs (i + 5))).1]) rfl ?_
  refine lv_aload_n hx hb dL_law_1107 rfl (lv_at hl 1 rfl) ?_
  refine zarg 1 hx hb hX hw.S hi hl (by decide) (by decide) dL_law_1108 dL_law_1109 dL_law_1110 dL_law_1111 dL_law_1112 ?_
  refine zarg 2 hx hb hX hw.S hi hl (by decide) (by decide) dL_law_1113 dL_law_1114 dL_law_1115 dL_law_1116 dL_law_1117 ?_
  refine zarg 3 hx hb hX hw.S hi hl (by decide) (by decide) dL_law_1118 dL_law_1119 dL_law_1120 dL_law_1121 dL_law_1122 ?_
  refine zarg 4 hx hb hX hw.S hi hl (by decide) (by decide) dL_law_1123 dL_law_1124 dL_law_1125 dL_law_1126 dL_law_1127 ?_
  refine zarg 5 hx hb hX hw.S hi hl (by decide) (by decide) dL_law_1128 dL_law_1129 dL_law_1130 dL_law_1131 dL_law_1132 ?_
  refine zcVR hx hb hml hown hts hl.1 hK hE hA lkL_140 (c_X6_copy x a q g nn mv S (xs (i + 1)) (xs (i + 2)) (xs (i + 3)) (xs (i + 4)) (xs (i + 5)) hS) ⟨Nat.le_of_ble_eq_true rfl, Nat.le_of_ble_eq_true rfl⟩ hcl hw 0 4 rfl rfl rfl rfl (Nat.le_of_ble_eq_true rfl) dL_law_1133 (fun vv uu H locs hp hw => ?_)
  obtain ⟨rfl, F, mv, rfl⟩ := hp
  refine W.eq (g2 := F0 m 1136 ls [.int (zm_copy (g 7) (g 8) nn (g 5) (xs (i + 1)) (xs (i + 2)) (xs (i + 3)) (xs (i + 4)) (xs (i + 5))).1, .int (zm_copy (g 7) (g 8) nn (g 5) (xs (i + 1)) (xs (i + 2)) (xs (i + 3)) (xs (i + 4)) (xs (i + 5))).1]) rfl ?_
  refine lv_icmp_eq (tgt := 1315) hx hb dL_law_1136 (by decide) (fun _ => ?_) (fun hc => absurd rfl hc)
  exact kk _ _ _ (zLaw.sh (hI) (hS) hk h1 h2 h3) hw

set_option maxHeartbeats 4000000 in
set_option maxRecDepth 100000 in
theorem law_lays {p : Program} {e : Env} {s : State} {m : MethodId} {args : Array Value} {below : List Frame} {meth : Method} {c : Code} {H : Heap} {locs : List Loc} {cells slots : Nat} {Q : State → Prop} {x : zX} {A : Nat → Prop} {ls : Array Slot} {sc L i : Nat} {xs : Nat → Int32} {b : Nat → Nat} {t : Nat → Nat → Nat} {a : Nat → Nat} {u : va_W} (C : zCx x p s m args c A sc L xs cells slots) (hi : i + 6 ≤ L) (hl : lv_has ls 4 [(3, .int (nI i)), (2, .ref (a 0)), (1, .ref (b 0)), (0, .ref sc)]) (hu : zLaw x b t a u) (hw : zHw x A s.heap u H locs) (kk : ∀ (u : va_W) (H : Heap) (locs : List Loc), zLaw x b t a u → zHw x A s.heap u H locs → W p x.1 e room_1 s m args below meth c H locs cells slots Q (F0 m 1315 ls [])) : W p x.1 e room_1 s m args below meth c H locs cells slots Q (F0 m 1141 ls []) := by
  obtain ⟨hx, hb, hml, hown, hts, hK, hE, hA, hX, hcl⟩ := C
  obtain ⟨S, l0, T, l1, K, l2, tq, nn, q, g, mv, n, rfl, hI, hS, hk, h1, h2, h3⟩ := hu
  refine lv_aload_n hx hb dL_law_1141 rfl (lv_at hl 2 rfl) ?_
  refine zarg 1 hx hb hX hw.S hi hl (by decide) (by decide) dL_law_1142 dL_law_1143 dL_law_1144 dL_law_1145 dL_law_1146 ?_
  refine zcVL hx hb hml hown hts hl.1 hK hE hA lkL_141 (c_X5_lays x b t S l0 T l1 K l2 (q 0) (g 5) (g 6) tq (g 7) (g 8) nn (xs (i + 1)) hS) ⟨Nat.le_of_ble_eq_true rfl, Nat.le_of_ble_eq_true rfl⟩ hcl hw 0 3 rfl rfl rfl rfl (Nat.le_of_ble_eq_true rfl) dL_law_1147 (fun vv uu H locs hp hw => ?_)
  obtain ⟨rfl, rfl⟩ := hp
  refine W.eq (g2 := F0 m 1150 ls [.int (zm_lays (g 7) (g 8) nn S (g 5) (xs (i + 1))).1]) rfl ?_
  refine lv_aload_n hx hb dL_law_1150 rfl (lv_at hl 1 rfl) ?_
  refine zarg 1 hx hb hX hw.S hi hl (by decide) (by decide) dL_law_1151 dL_law_1152 dL_law_1153 dL_law_1154 dL_law_1155 ?_
  refine zcVR hx hb hml hown hts hl.1 hK hE hA lkL_144 (c_X6_lays x a q g nn mv S (xs (i + 1)) hS) ⟨Nat.le_of_ble_eq_true rfl, Nat.le_of_ble_eq_true rfl⟩ hcl hw 0 4 rfl rfl rfl rfl (Nat.le_of_ble_eq_true rfl) dL_law_1156 (fun vv uu H locs hp hw => ?_)
  obtain ⟨rfl, F, mv, rfl⟩ := hp
  refine W.eq (g2 := F0 m 1159 ls [.int (zm_lays (g 7) (g 8) nn S (g 5) (xs (i + 1))).1, .int (zm_lays (g 7) (g 8) nn S (g 5) (xs (i + 1))).1]) rfl ?_
  refine lv_icmp_eq (tgt := 1315) hx hb dL_law_1159 (by decide) (fun _ => ?_) (fun hc => absurd rfl hc)
  exact kk _ _ _ (zLaw.sh (zm_lays_inv hI _ _ _ _ _) (hS) hk h1 h2 h3) hw

set_option maxHeartbeats 4000000 in
set_option maxRecDepth 100000 in
theorem law_book {p : Program} {e : Env} {s : State} {m : MethodId} {args : Array Value} {below : List Frame} {meth : Method} {c : Code} {H : Heap} {locs : List Loc} {cells slots : Nat} {Q : State → Prop} {x : zX} {A : Nat → Prop} {ls : Array Slot} {sc L i : Nat} {xs : Nat → Int32} {b : Nat → Nat} {t : Nat → Nat → Nat} {a : Nat → Nat} {u : va_W} (C : zCx x p s m args c A sc L xs cells slots) (hi : i + 6 ≤ L) (hl : lv_has ls 4 [(3, .int (nI i)), (2, .ref (a 0)), (1, .ref (b 0)), (0, .ref sc)]) (hu : zLaw x b t a u) (hw : zHw x A s.heap u H locs) (kk : ∀ (u : va_W) (H : Heap) (locs : List Loc), zLaw x b t a u → zHw x A s.heap u H locs → W p x.1 e room_1 s m args below meth c H locs cells slots Q (F0 m 1315 ls [])) : W p x.1 e room_1 s m args below meth c H locs cells slots Q (F0 m 1164 ls []) := by
  obtain ⟨hx, hb, hml, hown, hts, hK, hE, hA, hX, hcl⟩ := C
  obtain ⟨S, l0, T, l1, K, l2, tq, nn, q, g, mv, n, rfl, hI, hS, hk, h1, h2, h3⟩ := hu
  refine lv_aload_n hx hb dL_law_1164 rfl (lv_at hl 2 rfl) ?_
  refine zarg 1 hx hb hX hw.S hi hl (by decide) (by decide) dL_law_1165 dL_law_1166 dL_law_1167 dL_law_1168 dL_law_1169 ?_
  refine zarg 2 hx hb hX hw.S hi hl (by decide) (by decide) dL_law_1170 dL_law_1171 dL_law_1172 dL_law_1173 dL_law_1174 ?_
  refine zcVL hx hb hml hown hts hl.1 hK hE hA lkL_145 (c_X5_book x b t S l0 T l1 K l2 (q 0) (g 5) (g 6) tq (g 7) (g 8) nn (xs (i + 1)) (xs (i + 2)) hI hS) ⟨Nat.le_of_ble_eq_true rfl, Nat.le_of_ble_eq_true rfl⟩ hcl hw 0 3 rfl rfl rfl rfl (Nat.le_of_ble_eq_true rfl) dL_law_1175 (fun vv uu H locs hp hw => ?_)
  obtain ⟨rfl, T, l1, rfl⟩ := hp
  refine W.eq (g2 := F0 m 1178 ls [.int (zm_book (g 7) (g 8) nn S (g 5) (xs (i + 1)) (xs (i + 2))).1]) rfl ?_
  refine lv_aload_n hx hb dL_law_1178 rfl (lv_at hl 1 rfl) ?_
  refine zarg 1 hx hb hX hw.S hi hl (by decide) (by decide) dL_law_1179 dL_law_1180 dL_law_1181 dL_law_1182 dL_law_1183 ?_
  refine zarg 2 hx hb hX hw.S hi hl (by decide) (by decide) dL_law_1184 dL_law_1185 dL_law_1186 dL_law_1187 dL_law_1188 ?_
  refine zcVR hx hb hml hown hts hl.1 hK hE hA lkL_148 (c_X6_book x a q g nn mv S (xs (i + 1)) (xs (i + 2)) hI hS) ⟨Nat.le_of_ble_eq_true rfl, Nat.le_of_ble_eq_true rfl⟩ hcl hw 0 4 rfl rfl rfl rfl (Nat.le_of_ble_eq_true rfl) dL_law_1189 (fun vv uu H locs hp hw => ?_)
  obtain ⟨rfl, F, mv, rfl⟩ := hp
  refine W.eq (g2 := F0 m 1192 ls [.int (zm_book (g 7) (g 8) nn S (g 5) (xs (i + 1)) (xs (i + 2))).1, .int (zm_book (g 7) (g 8) nn S (g 5) (xs (i + 1)) (xs (i + 2))).1]) rfl ?_
  refine lv_icmp_eq (tgt := 1315) hx hb dL_law_1192 (by decide) (fun _ => ?_) (fun hc => absurd rfl hc)
  exact kk _ _ _ (zLaw.sh (hI) (hS) hk h1 h2 h3) hw

set_option maxHeartbeats 4000000 in
set_option maxRecDepth 100000 in
theorem law_read {p : Program} {e : Env} {s : State} {m : MethodId} {args : Array Value} {below : List Frame} {meth : Method} {c : Code} {H : Heap} {locs : List Loc} {cells slots : Nat} {Q : State → Prop} {x : zX} {A : Nat → Prop} {ls : Array Slot} {sc L i : Nat} {xs : Nat → Int32} {b : Nat → Nat} {t : Nat → Nat → Nat} {a : Nat → Nat} {u : va_W} (C : zCx x p s m args c A sc L xs cells slots) (hi : i + 6 ≤ L) (hl : lv_has ls 4 [(3, .int (nI i)), (2, .ref (a 0)), (1, .ref (b 0)), (0, .ref sc)]) (hu : zLaw x b t a u) (hw : zHw x A s.heap u H locs) (kk : ∀ (u : va_W) (H : Heap) (locs : List Loc), zLaw x b t a u → zHw x A s.heap u H locs → W p x.1 e room_1 s m args below meth c H locs cells slots Q (F0 m 1315 ls [])) : W p x.1 e room_1 s m args below meth c H locs cells slots Q (F0 m 1197 ls []) := by
  obtain ⟨hx, hb, hml, hown, hts, hK, hE, hA, hX, hcl⟩ := C
  obtain ⟨S, l0, T, l1, K, l2, tq, nn, q, g, mv, n, rfl, hI, hS, hk, h1, h2, h3⟩ := hu
  refine lv_aload_n hx hb dL_law_1197 rfl (lv_at hl 2 rfl) ?_
  refine zarg 1 hx hb hX hw.S hi hl (by decide) (by decide) dL_law_1198 dL_law_1199 dL_law_1200 dL_law_1201 dL_law_1202 ?_
  refine zarg 2 hx hb hX hw.S hi hl (by decide) (by decide) dL_law_1203 dL_law_1204 dL_law_1205 dL_law_1206 dL_law_1207 ?_
  refine zcVL hx hb hml hown hts hl.1 hK hE hA lkL_149 (c_X5_read x b t S l0 T l1 K l2 (q 0) (g 5) (g 6) tq (g 7) (g 8) nn (xs (i + 1)) (xs (i + 2)) hI hS) ⟨Nat.le_of_ble_eq_true rfl, Nat.le_of_ble_eq_true rfl⟩ hcl hw 0 3 rfl rfl rfl rfl (Nat.le_of_ble_eq_true rfl) dL_law_1208 (fun vv uu H locs hp hw => ?_)
  obtain ⟨rfl, T, l1, rfl⟩ := hp
  refine W.eq (g2 := F0 m 1211 ls [.int (zm_read (g 7) (g 8) nn S (g 5) (xs (i + 1)) (xs (i + 2))).1]) rfl ?_
  refine lv_aload_n hx hb dL_law_1211 rfl (lv_at hl 1 rfl) ?_
  refine zarg 1 hx hb hX hw.S hi hl (by decide) (by decide) dL_law_1212 dL_law_1213 dL_law_1214 dL_law_1215 dL_law_1216 ?_
  refine zarg 2 hx hb hX hw.S hi hl (by decide) (by decide) dL_law_1217 dL_law_1218 dL_law_1219 dL_law_1220 dL_law_1221 ?_
  refine zcVR hx hb hml hown hts hl.1 hK hE hA lkL_152 (c_X6_read x a q g nn mv S (xs (i + 1)) (xs (i + 2)) hI hS) ⟨Nat.le_of_ble_eq_true rfl, Nat.le_of_ble_eq_true rfl⟩ hcl hw 0 4 rfl rfl rfl rfl (Nat.le_of_ble_eq_true rfl) dL_law_1222 (fun vv uu H locs hp hw => ?_)
  obtain ⟨rfl, F, mv, rfl⟩ := hp
  refine W.eq (g2 := F0 m 1225 ls [.int (zm_read (g 7) (g 8) nn S (g 5) (xs (i + 1)) (xs (i + 2))).1, .int (zm_read (g 7) (g 8) nn S (g 5) (xs (i + 1)) (xs (i + 2))).1]) rfl ?_
  refine lv_icmp_eq (tgt := 1315) hx hb dL_law_1225 (by decide) (fun _ => ?_) (fun hc => absurd rfl hc)
  exact kk _ _ _ (zLaw.sh (hI) (hS) hk h1 h2 h3) hw

set_option maxHeartbeats 4000000 in
set_option maxRecDepth 100000 in
theorem law_image {p : Program} {e : Env} {s : State} {m : MethodId} {args : Array Value} {below : List Frame} {meth : Method} {c : Code} {H : Heap} {locs : List Loc} {cells slots : Nat} {Q : State → Prop} {x : zX} {A : Nat → Prop} {ls : Array Slot} {sc L i : Nat} {xs : Nat → Int32} {b : Nat → Nat} {t : Nat → Nat → Nat} {a : Nat → Nat} {u : va_W} (C : zCx x p s m args c A sc L xs cells slots) (hi : i + 6 ≤ L) (hl : lv_has ls 4 [(3, .int (nI i)), (2, .ref (a 0)), (1, .ref (b 0)), (0, .ref sc)]) (hu : zLaw x b t a u) (hw : zHw x A s.heap u H locs) (kk : ∀ (u : va_W) (H : Heap) (locs : List Loc), zLaw x b t a u → zHw x A s.heap u H locs → W p x.1 e room_1 s m args below meth c H locs cells slots Q (F0 m 1315 ls [])) : W p x.1 e room_1 s m args below meth c H locs cells slots Q (F0 m 1230 ls []) := by
  obtain ⟨hx, hb, hml, hown, hts, hK, hE, hA, hX, hcl⟩ := C
  obtain ⟨S, l0, T, l1, K, l2, tq, nn, q, g, mv, n, rfl, hI, hS, hk, h1, h2, h3⟩ := hu
  refine lv_aload_n hx hb dL_law_1230 rfl (lv_at hl 2 rfl) ?_
  refine zcVL hx hb hml hown hts hl.1 hK hE hA lkL_153 (c_X5_image x b t S l0 T l1 K l2 (q 0) (g 5) (g 6) tq (g 7) (g 8) nn) ⟨Nat.le_of_ble_eq_true rfl, Nat.le_of_ble_eq_true rfl⟩ hcl hw 0 3 rfl rfl rfl rfl (Nat.le_of_ble_eq_true rfl) dL_law_1231 (fun vv uu H locs hp hw => ?_)
  obtain ⟨rfl, rfl⟩ := hp
  refine W.eq (g2 := F0 m 1234 ls [.int 1]) rfl ?_
  refine lv_aload_n hx hb dL_law_1234 rfl (lv_at hl 1 rfl) ?_
  refine zcVR hx hb hml hown hts hl.1 hK hE hA lkL_156 (c_X6_image x a q g (zNM nn mv) (zflat S)) ⟨Nat.le_of_ble_eq_true rfl, Nat.le_of_ble_eq_true rfl⟩ hcl hw 0 4 rfl rfl rfl rfl (Nat.le_of_ble_eq_true rfl) dL_law_1235 (fun vv uu H locs hp hw => ?_)
  obtain ⟨rfl, rfl⟩ := hp
  refine W.eq (g2 := F0 m 1238 ls [.int 1, .int 1]) rfl ?_
  refine lv_icmp_eq (tgt := 1315) hx hb dL_law_1238 (by decide) (fun _ => ?_) (fun hc => absurd rfl hc)
  exact kk _ _ _ (zLaw.image hI hS h1 h2 h3) hw

set_option maxHeartbeats 4000000 in
set_option maxRecDepth 100000 in
theorem law_undo {p : Program} {e : Env} {s : State} {m : MethodId} {args : Array Value} {below : List Frame} {meth : Method} {c : Code} {H : Heap} {locs : List Loc} {cells slots : Nat} {Q : State → Prop} {x : zX} {A : Nat → Prop} {ls : Array Slot} {sc L i : Nat} {xs : Nat → Int32} {b : Nat → Nat} {t : Nat → Nat → Nat} {a : Nat → Nat} {u : va_W} (C : zCx x p s m args c A sc L xs cells slots) (hi : i + 6 ≤ L) (hl : lv_has ls 4 [(3, .int (nI i)), (2, .ref (a 0)), (1, .ref (b 0)), (0, .ref sc)]) (hu : zLaw x b t a u) (hw : zHw x A s.heap u H locs) (kk : ∀ (u : va_W) (H : Heap) (locs : List Loc), zLaw x b t a u → zHw x A s.heap u H locs → W p x.1 e room_1 s m args below meth c H locs cells slots Q (F0 m 1315 ls [])) : W p x.1 e room_1 s m args below meth c H locs cells slots Q (F0 m 1243 ls []) := by
  obtain ⟨hx, hb, hml, hown, hts, hK, hE, hA, hX, hcl⟩ := C
  obtain ⟨S, l0, T, l1, K, l2, tq, nn, q, g, mv, n, rfl, hI, hS, hk, h1, h2, h3⟩ := hu
  rcases Decidable.em (q 0 = 0) with h0 | h0
  · refine lv_aload_n hx hb dL_law_1243 rfl (lv_at hl 2 rfl) ?_
    refine zcVL hx hb hml hown hts hl.1 hK hE hA lkL_157 (c_X5_undo_0 x b t S l0 T l1 K l2 (q 0) (g 5) (g 6) tq (g 7) (g 8) nn h0) ⟨Nat.le_of_ble_eq_true rfl, Nat.le_of_ble_eq_true rfl⟩ hcl hw 0 3 rfl rfl rfl rfl (Nat.le_of_ble_eq_true rfl) dL_law_1244 (fun vv uu H locs hp hw => ?_)
    obtain ⟨rfl, rfl⟩ := hp
    refine W.eq (g2 := F0 m 1247 ls [.int (-1000000004)]) rfl ?_
    refine lv_aload_n hx hb dL_law_1247 rfl (lv_at hl 1 rfl) ?_
    refine zcVR hx hb hml hown hts hl.1 hK hE hA lkL_160 (c_X6_undo_0 x a q g (zNM nn mv) (zflat S) h0) ⟨Nat.le_of_ble_eq_true rfl, Nat.le_of_ble_eq_true rfl⟩ hcl hw 0 4 rfl rfl rfl rfl (Nat.le_of_ble_eq_true rfl) dL_law_1248 (fun vv uu H locs hp hw => ?_)
    obtain ⟨rfl, rfl⟩ := hp
    refine W.eq (g2 := F0 m 1251 ls [.int (-1000000004), .int (-1000000004)]) rfl ?_
    refine lv_icmp_eq (tgt := 1315) hx hb dL_law_1251 (by decide) (fun _ => ?_) (fun hc => absurd rfl hc)
    exact kk _ _ _ (zLaw.undo0 hI hk hS h1 h2 h3) hw
  · obtain ⟨hg, hKI⟩ := hk h0
    refine lv_aload_n hx hb dL_law_1243 rfl (lv_at hl 2 rfl) ?_
    refine zcVL hx hb hml hown hts hl.1 hK hE hA lkL_157 (c_X5_undo_1 x b t S l0 T l1 K l2 (q 0) (g 5) (g 6) tq (g 7) (g 8) nn h0) ⟨Nat.le_of_ble_eq_true rfl, Nat.le_of_ble_eq_true rfl⟩ hcl hw 0 3 rfl rfl rfl rfl (Nat.le_of_ble_eq_true rfl) dL_law_1244 (fun vv uu H locs hp hw => ?_)
    obtain ⟨rfl, rfl⟩ := hp
    refine W.eq (g2 := F0 m 1247 ls [.int (K 0 0)]) rfl ?_
    refine lv_aload_n hx hb dL_law_1247 rfl (lv_at hl 1 rfl) ?_
    refine zcVR hx hb hml hown hts hl.1 hK hE hA lkL_160 (c_X6_undo_1 x a q g (zNM nn mv) (zflat S) h0) ⟨Nat.le_of_ble_eq_true rfl, Nat.le_of_ble_eq_true rfl⟩ hcl hw 0 4 rfl rfl rfl rfl (Nat.le_of_ble_eq_true rfl) dL_law_1248 (fun vv uu H locs hp hw => ?_)
    obtain ⟨rfl, rfl⟩ := hp
    refine W.eq (g2 := F0 m 1251 ls [.int (g 2 0), .int (K 0 0)]) rfl ?_
    refine lv_icmp_eq (tgt := 1315) hx hb dL_law_1251 (by decide) (fun _ => ?_) (fun hc => absurd (by rw [hg]; rfl) hc)
    exact kk _ _ _ (zLaw.undo1 hKI hg hS h1 h2 h3) hw

set_option maxHeartbeats 4000000 in
set_option maxRecDepth 100000 in
theorem law_tear {p : Program} {e : Env} {s : State} {m : MethodId} {args : Array Value} {below : List Frame} {meth : Method} {c : Code} {H : Heap} {locs : List Loc} {cells slots : Nat} {Q : State → Prop} {x : zX} {A : Nat → Prop} {ls : Array Slot} {sc L i : Nat} {xs : Nat → Int32} {b : Nat → Nat} {t : Nat → Nat → Nat} {a : Nat → Nat} {u : va_W} (C : zCx x p s m args c A sc L xs cells slots) (hi : i + 6 ≤ L) (hl : lv_has ls 4 [(3, .int (nI i)), (2, .ref (a 0)), (1, .ref (b 0)), (0, .ref sc)]) (hu : zLaw x b t a u) (hw : zHw x A s.heap u H locs) (kk : ∀ (u : va_W) (H : Heap) (locs : List Loc), zLaw x b t a u → zHw x A s.heap u H locs → W p x.1 e room_1 s m args below meth c H locs cells slots Q (F0 m 1315 ls [])) : W p x.1 e room_1 s m args below meth c H locs cells slots Q (F0 m 1256 ls []) := by
  obtain ⟨hx, hb, hml, hown, hts, hK, hE, hA, hX, hcl⟩ := C
  obtain ⟨S, l0, T, l1, K, l2, tq, nn, q, g, mv, n, rfl, hI, hS, hk, h1, h2, h3⟩ := hu
  rcases Decidable.em (q 0 = 0) with h0 | h0
  · refine lv_aload_n hx hb dL_law_1256 rfl (lv_at hl 2 rfl) ?_
    refine zcVL hx hb hml hown hts hl.1 hK hE hA lkL_161 (c_X5_tear_0 x b t S l0 T l1 K l2 (q 0) (g 5) (g 6) tq (g 7) (g 8) nn h0) ⟨Nat.le_of_ble_eq_true rfl, Nat.le_of_ble_eq_true rfl⟩ hcl hw 0 3 rfl rfl rfl rfl (Nat.le_of_ble_eq_true rfl) dL_law_1257 (fun vv uu H locs hp hw => ?_)
    obtain ⟨rfl, rfl⟩ := hp
    refine W.eq (g2 := F0 m 1260 ls [.int 0]) rfl ?_
    refine lv_aload_n hx hb dL_law_1260 rfl (lv_at hl 1 rfl) ?_
    refine zcVR hx hb hml hown hts hl.1 hK hE hA lkL_164 (c_X6_tear_0 x a q g (zNM nn mv) (zflat S) h0) ⟨Nat.le_of_ble_eq_true rfl, Nat.le_of_ble_eq_true rfl⟩ hcl hw 0 4 rfl rfl rfl rfl (Nat.le_of_ble_eq_true rfl) dL_law_1261 (fun vv uu H locs hp hw => ?_)
    obtain ⟨rfl, rfl⟩ := hp
    refine W.eq (g2 := F0 m 1264 ls [.int 0, .int 0]) rfl ?_
    refine lv_icmp_eq (tgt := 1315) hx hb dL_law_1264 (by decide) (fun _ => ?_) (fun hc => absurd rfl hc)
    exact kk _ _ _ (zLaw.tear hI hS h1 h2 h3) hw
  · obtain ⟨hg, hKI⟩ := hk h0
    refine lv_aload_n hx hb dL_law_1256 rfl (lv_at hl 2 rfl) ?_
    refine zcVL hx hb hml hown hts hl.1 hK hE hA lkL_161 (c_X5_tear_1 x b t S l0 T l1 K l2 (q 0) (g 5) (g 6) tq (g 7) (g 8) nn h0) ⟨Nat.le_of_ble_eq_true rfl, Nat.le_of_ble_eq_true rfl⟩ hcl hw 0 3 rfl rfl rfl rfl (Nat.le_of_ble_eq_true rfl) dL_law_1257 (fun vv uu H locs hp hw => ?_)
    obtain ⟨rfl, rfl⟩ := hp
    refine W.eq (g2 := F0 m 1260 ls [.int 1]) rfl ?_
    refine lv_aload_n hx hb dL_law_1260 rfl (lv_at hl 1 rfl) ?_
    refine zcVR hx hb hml hown hts hl.1 hK hE hA lkL_164 (c_X6_tear_1 x a q g (zNM nn mv) (zflat S) h0) ⟨Nat.le_of_ble_eq_true rfl, Nat.le_of_ble_eq_true rfl⟩ hcl hw 0 4 rfl rfl rfl rfl (Nat.le_of_ble_eq_true rfl) dL_law_1261 (fun vv uu H locs hp hw => ?_)
    obtain ⟨rfl, rfl⟩ := hp
    refine W.eq (g2 := F0 m 1264 ls [.int 1, .int 1]) rfl ?_
    refine lv_icmp_eq (tgt := 1315) hx hb dL_law_1264 (by decide) (fun _ => ?_) (fun hc => absurd rfl hc)
    exact kk _ _ _ (zLaw.tear hI hS h1 h2 h3) hw

set_option maxHeartbeats 4000000 in
set_option maxRecDepth 100000 in
theorem law_count {p : Program} {e : Env} {s : State} {m : MethodId} {args : Array Value} {below : List Frame} {meth : Method} {c : Code} {H : Heap} {locs : List Loc} {cells slots : Nat} {Q : State → Prop} {x : zX} {A : Nat → Prop} {ls : Array Slot} {sc L i : Nat} {xs : Nat → Int32} {b : Nat → Nat} {t : Nat → Nat → Nat} {a : Nat → Nat} {u : va_W} (C : zCx x p s m args c A sc L xs cells slots) (hi : i + 6 ≤ L) (hl : lv_has ls 4 [(3, .int (nI i)), (2, .ref (a 0)), (1, .ref (b 0)), (0, .ref sc)]) (hu : zLaw x b t a u) (hw : zHw x A s.heap u H locs) (kk : ∀ (u : va_W) (H : Heap) (locs : List Loc), zLaw x b t a u → zHw x A s.heap u H locs → W p x.1 e room_1 s m args below meth c H locs cells slots Q (F0 m 1315 ls [])) : W p x.1 e room_1 s m args below meth c H locs cells slots Q (F0 m 1269 ls []) := by
  obtain ⟨hx, hb, hml, hown, hts, hK, hE, hA, hX, hcl⟩ := C
  obtain ⟨S, l0, T, l1, K, l2, tq, nn, q, g, mv, n, rfl, hI, hS, hk, h1, h2, h3⟩ := hu
  have h12 : tq 0 = q 1 := h1.trans h2.symm
  refine lv_aload_n hx hb dL_law_1269 rfl (lv_at hl 2 rfl) ?_
  refine zarg 1 hx hb hX hw.S hi hl (by decide) (by decide) dL_law_1270 dL_law_1271 dL_law_1272 dL_law_1273 dL_law_1274 ?_
  refine zcVL hx hb hml hown hts hl.1 hK hE hA lkL_165 (c_X5_count x b t S l0 T l1 K l2 (q 0) (g 5) (g 6) tq (g 7) (g 8) nn (xs (i + 1)) hI) ⟨Nat.le_of_ble_eq_true rfl, Nat.le_of_ble_eq_true rfl⟩ hcl hw 0 3 rfl rfl rfl rfl (Nat.le_of_ble_eq_true rfl) dL_law_1275 (fun vv uu H locs hp hw => ?_)
  obtain ⟨rfl, rfl⟩ := hp
  refine W.eq (g2 := F0 m 1278 ls [.int (zm_count S (tq 0) (g 5) (xs (i + 1))).1]) rfl ?_
  refine lv_aload_n hx hb dL_law_1278 rfl (lv_at hl 1 rfl) ?_
  refine zarg 1 hx hb hX hw.S hi hl (by decide) (by decide) dL_law_1279 dL_law_1280 dL_law_1281 dL_law_1282 dL_law_1283 ?_
  refine zcVR hx hb hml hown hts hl.1 hK hE hA lkL_168 (c_X6_count x a q g (zNM nn mv) S (xs (i + 1)) hI) ⟨Nat.le_of_ble_eq_true rfl, Nat.le_of_ble_eq_true rfl⟩ hcl hw 0 4 rfl rfl rfl rfl (Nat.le_of_ble_eq_true rfl) dL_law_1284 (fun vv uu H locs hp hw => ?_)
  obtain ⟨rfl, rfl⟩ := hp
  refine W.eq (g2 := F0 m 1287 ls [.int (zm_count S (q 1) (g 5) (xs (i + 1))).1, .int (zm_count S (tq 0) (g 5) (xs (i + 1))).1]) rfl ?_
  rw [h12] at hw
  refine lv_icmp_eq (tgt := 1315) hx hb dL_law_1287 (by decide) (fun _ => ?_) (fun hc => absurd (by rw [h12]) hc)
  exact kk _ _ _ (zLaw.fd hI hS hk h1 h2 h3) hw

set_option maxHeartbeats 4000000 in
set_option maxRecDepth 100000 in
theorem law_status {p : Program} {e : Env} {s : State} {m : MethodId} {args : Array Value} {below : List Frame} {meth : Method} {c : Code} {H : Heap} {locs : List Loc} {cells slots : Nat} {Q : State → Prop} {x : zX} {A : Nat → Prop} {ls : Array Slot} {sc L i : Nat} {xs : Nat → Int32} {b : Nat → Nat} {t : Nat → Nat → Nat} {a : Nat → Nat} {u : va_W} (C : zCx x p s m args c A sc L xs cells slots) (hi : i + 6 ≤ L) (hl : lv_has ls 4 [(3, .int (nI i)), (2, .ref (a 0)), (1, .ref (b 0)), (0, .ref sc)]) (hu : zLaw x b t a u) (hw : zHw x A s.heap u H locs) (kk : ∀ (u : va_W) (H : Heap) (locs : List Loc), zLaw x b t a u → zHw x A s.heap u H locs → W p x.1 e room_1 s m args below meth c H locs cells slots Q (F0 m 1315 ls [])) : W p x.1 e room_1 s m args below meth c H locs cells slots Q (F0 m 1292 ls []) := by
  obtain ⟨hx, hb, hml, hown, hts, hK, hE, hA, hX, hcl⟩ := C
  obtain ⟨S, l0, T, l1, K, l2, tq, nn, q, g, mv, n, rfl, hI, hS, hk, h1, h2, h3⟩ := hu
  refine lv_aload_n hx hb dL_law_1292 rfl (lv_at hl 2 rfl) ?_
  refine zarg 1 hx hb hX hw.S hi hl (by decide) (by decide) dL_law_1293 dL_law_1294 dL_law_1295 dL_law_1296 dL_law_1297 ?_
  refine zcVL hx hb hml hown hts hl.1 hK hE hA lkL_169 (c_X5_status x b t S l0 T l1 K l2 (q 0) (g 5) (g 6) tq (g 7) (g 8) nn (xs (i + 1))) ⟨Nat.le_of_ble_eq_true rfl, Nat.le_of_ble_eq_true rfl⟩ hcl hw 0 3 rfl rfl rfl rfl (Nat.le_of_ble_eq_true rfl) dL_law_1298 (fun vv uu H locs hp hw => ?_)
  obtain ⟨rfl, rfl⟩ := hp
  refine W.eq (g2 := F0 m 1301 ls [.int (zm_status (g 5) (xs (i + 1))).1]) rfl ?_
  refine lv_aload_n hx hb dL_law_1301 rfl (lv_at hl 1 rfl) ?_
  refine zarg 1 hx hb hX hw.S hi hl (by decide) (by decide) dL_law_1302 dL_law_1303 dL_law_1304 dL_law_1305 dL_law_1306 ?_
  refine zcVR hx hb hml hown hts hl.1 hK hE hA lkL_172 (c_X6_status x a q g (zNM nn mv) S (xs (i + 1))) ⟨Nat.le_of_ble_eq_true rfl, Nat.le_of_ble_eq_true rfl⟩ hcl hw 0 4 rfl rfl rfl rfl (Nat.le_of_ble_eq_true rfl) dL_law_1307 (fun vv uu H locs hp hw => ?_)
  obtain ⟨rfl, rfl⟩ := hp
  refine W.eq (g2 := F0 m 1310 ls [.int (zm_status (g 5) (xs (i + 1))).1, .int (zm_status (g 5) (xs (i + 1))).1]) rfl ?_
  refine lv_icmp_eq (tgt := 1315) hx hb dL_law_1310 (by decide) (fun _ => ?_) (fun hc => absurd rfl hc)
  exact kk _ _ _ (zLaw.fd hI hS hk h1 h2 h3) hw
