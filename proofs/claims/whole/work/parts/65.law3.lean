/-! THE LAW: its cases -/
set_option maxHeartbeats 4000000 in
set_option maxRecDepth 100000 in
theorem law_on {p : Program} {e : Env} {s : State} {m : MethodId} {args : Array Value} {below : List Frame} {meth : Method} {c : Code} {H : Heap} {locs : List Loc} {cells slots : Nat} {Q : State → Prop} {x : zX} {A : Nat → Prop} {ls : Array Slot} {sc L i : Nat} {xs : Nat → Int32} {b : Nat → Nat} {t : Nat → Nat → Nat} {a : Nat → Nat} {u : va_W} (C : zCx x p s m args c A sc L xs cells slots) (hi : i + 6 ≤ L) (hl : lv_has ls 4 [(3, .int (nI i)), (2, .ref (a 0)), (1, .ref (b 0)), (0, .ref sc)]) (hu : zLaw x b t a u) (hw : zHw x A s.heap u H locs) (kk : ∀ (u : va_W) (H : Heap) (locs : List Loc), zLaw x b t a u → zHw x A s.heap u H locs → W p x.1 e room_1 s m args below meth c H locs cells slots Q (F0 m 1315 ls [])) : W p x.1 e room_1 s m args below meth c H locs cells slots Q (F0 m 576 ls []) := by
  obtain ⟨hx, hb, hml, hown, hts, hK, hE, hA, hX, hcl⟩ := C
  obtain ⟨S, l0, T, l1, K, l2, tq, nn, q, g, mv, n, rfl, hI, hS, hk, h1, h2, h3⟩ := hu
  refine lv_aload_n hx hb dL_law_576 rfl (lv_at hl 2 rfl) ?_
  refine zarg 1 hx hb hX hw.S hi hl (by decide) (by decide) dL_law_577 dL_law_578 dL_law_579 dL_law_580 dL_law_581 ?_
  refine zarg 2 hx hb hX hw.S hi hl (by decide) (by decide) dL_law_582 dL_law_583 dL_law_584 dL_law_585 dL_law_586 ?_
  refine zarg 3 hx hb hX hw.S hi hl (by decide) (by decide) dL_law_587 dL_law_588 dL_law_589 dL_law_590 dL_law_591 ?_
  refine zcVL hx hb hml hown hts hl.1 hK hE hA lkL_65 (c_X5_on x b t S l0 T l1 K l2 (q 0) (g 5) (g 6) tq (g 7) (g 8) nn (xs (i + 1)) (xs (i + 2)) (xs (i + 3)) hI) ⟨Nat.le_of_ble_eq_true rfl, Nat.le_of_ble_eq_true rfl⟩ hcl hw 0 3 rfl rfl rfl rfl (Nat.le_of_ble_eq_true rfl) dL_law_592 (fun vv uu H locs hp hw => ?_)
  obtain ⟨rfl, l0, T, l1, rfl⟩ := hp
  refine W.eq (g2 := F0 m 595 ls [.int (zm_on S (g 5) (xs (i + 1)) (xs (i + 2)) (xs (i + 3))).1]) rfl ?_
  refine lv_aload_n hx hb dL_law_595 rfl (lv_at hl 1 rfl) ?_
  refine zarg 1 hx hb hX hw.S hi hl (by decide) (by decide) dL_law_596 dL_law_597 dL_law_598 dL_law_599 dL_law_600 ?_
  refine zarg 2 hx hb hX hw.S hi hl (by decide) (by decide) dL_law_601 dL_law_602 dL_law_603 dL_law_604 dL_law_605 ?_
  refine zarg 3 hx hb hX hw.S hi hl (by decide) (by decide) dL_law_606 dL_law_607 dL_law_608 dL_law_609 dL_law_610 ?_
  refine zcVR hx hb hml hown hts hl.1 hK hE hA lkL_68 (c_X6_on x a q g (zNM nn mv) S (xs (i + 1)) (xs (i + 2)) (xs (i + 3)) hI) ⟨Nat.le_of_ble_eq_true rfl, Nat.le_of_ble_eq_true rfl⟩ hcl hw 0 4 rfl rfl rfl rfl (Nat.le_of_ble_eq_true rfl) dL_law_611 (fun vv uu H locs hp hw => ?_)
  obtain ⟨rfl, F, rfl⟩ := hp
  refine W.eq (g2 := F0 m 614 ls [.int (zm_on S (g 5) (xs (i + 1)) (xs (i + 2)) (xs (i + 3))).1, .int (zm_on S (g 5) (xs (i + 1)) (xs (i + 2)) (xs (i + 3))).1]) rfl ?_
  refine lv_icmp_eq (tgt := 1315) hx hb dL_law_614 (by decide) (fun _ => ?_) (fun hc => absurd rfl hc)
  exact kk _ _ _ (zLaw.std (r := (zm_on S (g 5) (xs (i + 1)) (xs (i + 2)) (xs (i + 3)))) (by rw [zm_on_S]; exact hI) hS hk h1 h2 h3) hw

set_option maxHeartbeats 4000000 in
set_option maxRecDepth 100000 in
theorem law_worse {p : Program} {e : Env} {s : State} {m : MethodId} {args : Array Value} {below : List Frame} {meth : Method} {c : Code} {H : Heap} {locs : List Loc} {cells slots : Nat} {Q : State → Prop} {x : zX} {A : Nat → Prop} {ls : Array Slot} {sc L i : Nat} {xs : Nat → Int32} {b : Nat → Nat} {t : Nat → Nat → Nat} {a : Nat → Nat} {u : va_W} (C : zCx x p s m args c A sc L xs cells slots) (hi : i + 6 ≤ L) (hl : lv_has ls 4 [(3, .int (nI i)), (2, .ref (a 0)), (1, .ref (b 0)), (0, .ref sc)]) (hu : zLaw x b t a u) (hw : zHw x A s.heap u H locs) (kk : ∀ (u : va_W) (H : Heap) (locs : List Loc), zLaw x b t a u → zHw x A s.heap u H locs → W p x.1 e room_1 s m args below meth c H locs cells slots Q (F0 m 1315 ls [])) : W p x.1 e room_1 s m args below meth c H locs cells slots Q (F0 m 619 ls []) := by
  obtain ⟨hx, hb, hml, hown, hts, hK, hE, hA, hX, hcl⟩ := C
  obtain ⟨S, l0, T, l1, K, l2, tq, nn, q, g, mv, n, rfl, hI, hS, hk, h1, h2, h3⟩ := hu
  refine lv_aload_n hx hb dL_law_619 rfl (lv_at hl 2 rfl) ?_
  refine zarg 1 hx hb hX hw.S hi hl (by decide) (by decide) dL_law_620 dL_law_621 dL_law_622 dL_law_623 dL_law_624 ?_
  refine zcVL hx hb hml hown hts hl.1 hK hE hA lkL_69 (c_X5_worse x b t S l0 T l1 K l2 (q 0) (g 5) (g 6) tq (g 7) (g 8) nn (xs (i + 1)) hI) ⟨Nat.le_of_ble_eq_true rfl, Nat.le_of_ble_eq_true rfl⟩ hcl hw 0 3 rfl rfl rfl rfl (Nat.le_of_ble_eq_true rfl) dL_law_625 (fun vv uu H locs hp hw => ?_)
  obtain ⟨rfl, l0, T, l1, rfl⟩ := hp
  refine W.eq (g2 := F0 m 628 ls [.int (zm_worse S (g 5) (xs (i + 1))).1]) rfl ?_
  refine lv_aload_n hx hb dL_law_628 rfl (lv_at hl 1 rfl) ?_
  refine zarg 1 hx hb hX hw.S hi hl (by decide) (by decide) dL_law_629 dL_law_630 dL_law_631 dL_law_632 dL_law_633 ?_
  refine zcVR hx hb hml hown hts hl.1 hK hE hA lkL_72 (c_X6_worse x a q g (zNM nn mv) S (xs (i + 1)) hI) ⟨Nat.le_of_ble_eq_true rfl, Nat.le_of_ble_eq_true rfl⟩ hcl hw 0 4 rfl rfl rfl rfl (Nat.le_of_ble_eq_true rfl) dL_law_634 (fun vv uu H locs hp hw => ?_)
  obtain ⟨rfl, F, rfl⟩ := hp
  refine W.eq (g2 := F0 m 637 ls [.int (zm_worse S (g 5) (xs (i + 1))).1, .int (zm_worse S (g 5) (xs (i + 1))).1]) rfl ?_
  refine lv_icmp_eq (tgt := 1315) hx hb dL_law_637 (by decide) (fun _ => ?_) (fun hc => absurd rfl hc)
  exact kk _ _ _ (zLaw.std (r := (zm_worse S (g 5) (xs (i + 1)))) (by rw [zm_worse_S]; exact hI) hS hk h1 h2 h3) hw

set_option maxHeartbeats 4000000 in
set_option maxRecDepth 100000 in
theorem law_cost {p : Program} {e : Env} {s : State} {m : MethodId} {args : Array Value} {below : List Frame} {meth : Method} {c : Code} {H : Heap} {locs : List Loc} {cells slots : Nat} {Q : State → Prop} {x : zX} {A : Nat → Prop} {ls : Array Slot} {sc L i : Nat} {xs : Nat → Int32} {b : Nat → Nat} {t : Nat → Nat → Nat} {a : Nat → Nat} {u : va_W} (C : zCx x p s m args c A sc L xs cells slots) (hi : i + 6 ≤ L) (hl : lv_has ls 4 [(3, .int (nI i)), (2, .ref (a 0)), (1, .ref (b 0)), (0, .ref sc)]) (hu : zLaw x b t a u) (hw : zHw x A s.heap u H locs) (kk : ∀ (u : va_W) (H : Heap) (locs : List Loc), zLaw x b t a u → zHw x A s.heap u H locs → W p x.1 e room_1 s m args below meth c H locs cells slots Q (F0 m 1315 ls [])) : W p x.1 e room_1 s m args below meth c H locs cells slots Q (F0 m 642 ls []) := by
  obtain ⟨hx, hb, hml, hown, hts, hK, hE, hA, hX, hcl⟩ := C
  obtain ⟨S, l0, T, l1, K, l2, tq, nn, q, g, mv, n, rfl, hI, hS, hk, h1, h2, h3⟩ := hu
  refine lv_aload_n hx hb dL_law_642 rfl (lv_at hl 2 rfl) ?_
  refine zarg 1 hx hb hX hw.S hi hl (by decide) (by decide) dL_law_643 dL_law_644 dL_law_645 dL_law_646 dL_law_647 ?_
  refine zcVL hx hb hml hown hts hl.1 hK hE hA lkL_73 (c_X5_cost x b t S l0 T l1 K l2 (q 0) (g 5) (g 6) tq (g 7) (g 8) nn (xs (i + 1)) hI) ⟨Nat.le_of_ble_eq_true rfl, Nat.le_of_ble_eq_true rfl⟩ hcl hw 0 3 rfl rfl rfl rfl (Nat.le_of_ble_eq_true rfl) dL_law_648 (fun vv uu H locs hp hw => ?_)
  obtain ⟨rfl, l0, T, l1, rfl⟩ := hp
  refine W.eq (g2 := F0 m 651 ls [.int (zm_cost S (g 5) (xs (i + 1))).1]) rfl ?_
  refine lv_aload_n hx hb dL_law_651 rfl (lv_at hl 1 rfl) ?_
  refine zarg 1 hx hb hX hw.S hi hl (by decide) (by decide) dL_law_652 dL_law_653 dL_law_654 dL_law_655 dL_law_656 ?_
  refine zcVR hx hb hml hown hts hl.1 hK hE hA lkL_76 (c_X6_cost x a q g (zNM nn mv) S (xs (i + 1)) hI) ⟨Nat.le_of_ble_eq_true rfl, Nat.le_of_ble_eq_true rfl⟩ hcl hw 0 4 rfl rfl rfl rfl (Nat.le_of_ble_eq_true rfl) dL_law_657 (fun vv uu H locs hp hw => ?_)
  obtain ⟨rfl, F, rfl⟩ := hp
  refine W.eq (g2 := F0 m 660 ls [.int (zm_cost S (g 5) (xs (i + 1))).1, .int (zm_cost S (g 5) (xs (i + 1))).1]) rfl ?_
  refine lv_icmp_eq (tgt := 1315) hx hb dL_law_660 (by decide) (fun _ => ?_) (fun hc => absurd rfl hc)
  exact kk _ _ _ (zLaw.std (r := (zm_cost S (g 5) (xs (i + 1)))) (by rw [zm_cost_S]; exact hI) hS hk h1 h2 h3) hw

set_option maxHeartbeats 4000000 in
set_option maxRecDepth 100000 in
theorem law_filled {p : Program} {e : Env} {s : State} {m : MethodId} {args : Array Value} {below : List Frame} {meth : Method} {c : Code} {H : Heap} {locs : List Loc} {cells slots : Nat} {Q : State → Prop} {x : zX} {A : Nat → Prop} {ls : Array Slot} {sc L i : Nat} {xs : Nat → Int32} {b : Nat → Nat} {t : Nat → Nat → Nat} {a : Nat → Nat} {u : va_W} (C : zCx x p s m args c A sc L xs cells slots) (hi : i + 6 ≤ L) (hl : lv_has ls 4 [(3, .int (nI i)), (2, .ref (a 0)), (1, .ref (b 0)), (0, .ref sc)]) (hu : zLaw x b t a u) (hw : zHw x A s.heap u H locs) (kk : ∀ (u : va_W) (H : Heap) (locs : List Loc), zLaw x b t a u → zHw x A s.heap u H locs → W p x.1 e room_1 s m args below meth c H locs cells slots Q (F0 m 1315 ls [])) : W p x.1 e room_1 s m args below meth c H locs cells slots Q (F0 m 665 ls []) := by
  obtain ⟨hx, hb, hml, hown, hts, hK, hE, hA, hX, hcl⟩ := C
  obtain ⟨S, l0, T, l1, K, l2, tq, nn, q, g, mv, n, rfl, hI, hS, hk, h1, h2, h3⟩ := hu
  refine lv_aload_n hx hb dL_law_665 rfl (lv_at hl 2 rfl) ?_
  refine zarg 1 hx hb hX hw.S hi hl (by decide) (by decide) dL_law_666 dL_law_667 dL_law_668 dL_law_669 dL_law_670 ?_
  refine zcVL hx hb hml hown hts hl.1 hK hE hA lkL_77 (c_X5_filled x b t S l0 T l1 K l2 (q 0) (g 5) (g 6) tq (g 7) (g 8) nn (xs (i + 1)) hI) ⟨Nat.le_of_ble_eq_true rfl, Nat.le_of_ble_eq_true rfl⟩ hcl hw 0 3 rfl rfl rfl rfl (Nat.le_of_ble_eq_true rfl) dL_law_671 (fun vv uu H locs hp hw => ?_)
  obtain ⟨rfl, l0, T, l1, rfl⟩ := hp
  refine W.eq (g2 := F0 m 674 ls [.int (zm_first true S (g 5) (xs (i + 1))).1]) rfl ?_
  refine lv_aload_n hx hb dL_law_674 rfl (lv_at hl 1 rfl) ?_
  refine zarg 1 hx hb hX hw.S hi hl (by decide) (by decide) dL_law_675 dL_law_676 dL_law_677 dL_law_678 dL_law_679 ?_
  refine zcVR hx hb hml hown hts hl.1 hK hE hA lkL_80 (c_X6_filled x a q g (zNM nn mv) S (xs (i + 1)) hI) ⟨Nat.le_of_ble_eq_true rfl, Nat.le_of_ble_eq_true rfl⟩ hcl hw 0 4 rfl rfl rfl rfl (Nat.le_of_ble_eq_true rfl) dL_law_680 (fun vv uu H locs hp hw => ?_)
  obtain ⟨rfl, F, rfl⟩ := hp
  refine W.eq (g2 := F0 m 683 ls [.int (zm_first true S (g 5) (xs (i + 1))).1, .int (zm_first true S (g 5) (xs (i + 1))).1]) rfl ?_
  refine lv_icmp_eq (tgt := 1315) hx hb dL_law_683 (by decide) (fun _ => ?_) (fun hc => absurd rfl hc)
  exact kk _ _ _ (zLaw.std (r := (zm_first true S (g 5) (xs (i + 1)))) (by rw [zm_first_S]; exact hI) hS hk h1 h2 h3) hw

set_option maxHeartbeats 4000000 in
set_option maxRecDepth 100000 in
theorem law_breaks {p : Program} {e : Env} {s : State} {m : MethodId} {args : Array Value} {below : List Frame} {meth : Method} {c : Code} {H : Heap} {locs : List Loc} {cells slots : Nat} {Q : State → Prop} {x : zX} {A : Nat → Prop} {ls : Array Slot} {sc L i : Nat} {xs : Nat → Int32} {b : Nat → Nat} {t : Nat → Nat → Nat} {a : Nat → Nat} {u : va_W} (C : zCx x p s m args c A sc L xs cells slots) (hi : i + 6 ≤ L) (hl : lv_has ls 4 [(3, .int (nI i)), (2, .ref (a 0)), (1, .ref (b 0)), (0, .ref sc)]) (hu : zLaw x b t a u) (hw : zHw x A s.heap u H locs) (kk : ∀ (u : va_W) (H : Heap) (locs : List Loc), zLaw x b t a u → zHw x A s.heap u H locs → W p x.1 e room_1 s m args below meth c H locs cells slots Q (F0 m 1315 ls [])) : W p x.1 e room_1 s m args below meth c H locs cells slots Q (F0 m 688 ls []) := by
  obtain ⟨hx, hb, hml, hown, hts, hK, hE, hA, hX, hcl⟩ := C
  obtain ⟨S, l0, T, l1, K, l2, tq, nn, q, g, mv, n, rfl, hI, hS, hk, h1, h2, h3⟩ := hu
  refine lv_aload_n hx hb dL_law_688 rfl (lv_at hl 2 rfl) ?_
  refine zarg 1 hx hb hX hw.S hi hl (by decide) (by decide) dL_law_689 dL_law_690 dL_law_691 dL_law_692 dL_law_693 ?_
  refine zcVL hx hb hml hown hts hl.1 hK hE hA lkL_81 (c_X5_breaks x b t S l0 T l1 K l2 (q 0) (g 5) (g 6) tq (g 7) (g 8) nn (xs (i + 1)) hI) ⟨Nat.le_of_ble_eq_true rfl, Nat.le_of_ble_eq_true rfl⟩ hcl hw 0 3 rfl rfl rfl rfl (Nat.le_of_ble_eq_true rfl) dL_law_694 (fun vv uu H locs hp hw => ?_)
  obtain ⟨rfl, l0, T, l1, rfl⟩ := hp
  refine W.eq (g2 := F0 m 697 ls [.int (zm_first false S (g 5) (xs (i + 1))).1]) rfl ?_
  refine lv_aload_n hx hb dL_law_697 rfl (lv_at hl 1 rfl) ?_
  refine zarg 1 hx hb hX hw.S hi hl (by decide) (by decide) dL_law_698 dL_law_699 dL_law_700 dL_law_701 dL_law_702 ?_
  refine zcVR hx hb hml hown hts hl.1 hK hE hA lkL_84 (c_X6_breaks x a q g (zNM nn mv) S (xs (i + 1)) hI) ⟨Nat.le_of_ble_eq_true rfl, Nat.le_of_ble_eq_true rfl⟩ hcl hw 0 4 rfl rfl rfl rfl (Nat.le_of_ble_eq_true rfl) dL_law_703 (fun vv uu H locs hp hw => ?_)
  obtain ⟨rfl, F, rfl⟩ := hp
  refine W.eq (g2 := F0 m 706 ls [.int (zm_first false S (g 5) (xs (i + 1))).1, .int (zm_first false S (g 5) (xs (i + 1))).1]) rfl ?_
  refine lv_icmp_eq (tgt := 1315) hx hb dL_law_706 (by decide) (fun _ => ?_) (fun hc => absurd rfl hc)
  exact kk _ _ _ (zLaw.std (r := (zm_first false S (g 5) (xs (i + 1)))) (by rw [zm_first_S]; exact hI) hS hk h1 h2 h3) hw

set_option maxHeartbeats 4000000 in
set_option maxRecDepth 100000 in
theorem law_how {p : Program} {e : Env} {s : State} {m : MethodId} {args : Array Value} {below : List Frame} {meth : Method} {c : Code} {H : Heap} {locs : List Loc} {cells slots : Nat} {Q : State → Prop} {x : zX} {A : Nat → Prop} {ls : Array Slot} {sc L i : Nat} {xs : Nat → Int32} {b : Nat → Nat} {t : Nat → Nat → Nat} {a : Nat → Nat} {u : va_W} (C : zCx x p s m args c A sc L xs cells slots) (hi : i + 6 ≤ L) (hl : lv_has ls 4 [(3, .int (nI i)), (2, .ref (a 0)), (1, .ref (b 0)), (0, .ref sc)]) (hu : zLaw x b t a u) (hw : zHw x A s.heap u H locs) (kk : ∀ (u : va_W) (H : Heap) (locs : List Loc), zLaw x b t a u → zHw x A s.heap u H locs → W p x.1 e room_1 s m args below meth c H locs cells slots Q (F0 m 1315 ls [])) : W p x.1 e room_1 s m args below meth c H locs cells slots Q (F0 m 711 ls []) := by
  obtain ⟨hx, hb, hml, hown, hts, hK, hE, hA, hX, hcl⟩ := C
  obtain ⟨S, l0, T, l1, K, l2, tq, nn, q, g, mv, n, rfl, hI, hS, hk, h1, h2, h3⟩ := hu
  refine lv_aload_n hx hb dL_law_711 rfl (lv_at hl 2 rfl) ?_
  refine zarg 1 hx hb hX hw.S hi hl (by decide) (by decide) dL_law_712 dL_law_713 dL_law_714 dL_law_715 dL_law_716 ?_
  refine zcVL hx hb hml hown hts hl.1 hK hE hA lkL_85 (c_X5_how x b t S l0 T l1 K l2 (q 0) (g 5) (g 6) tq (g 7) (g 8) nn (xs (i + 1)) hI) ⟨Nat.le_of_ble_eq_true rfl, Nat.le_of_ble_eq_true rfl⟩ hcl hw 0 3 rfl rfl rfl rfl (Nat.le_of_ble_eq_true rfl) dL_law_717 (fun vv uu H locs hp hw => ?_)
  obtain ⟨rfl, l0, T, l1, rfl⟩ := hp
  refine W.eq (g2 := F0 m 720 ls [.int (zm_how S (g 5) (xs (i + 1))).1]) rfl ?_
  refine lv_aload_n hx hb dL_law_720 rfl (lv_at hl 1 rfl) ?_
  refine zarg 1 hx hb hX hw.S hi hl (by decide) (by decide) dL_law_721 dL_law_722 dL_law_723 dL_law_724 dL_law_725 ?_
  refine zcVR hx hb hml hown hts hl.1 hK hE hA lkL_88 (c_X6_how x a q g (zNM nn mv) S (xs (i + 1)) hI) ⟨Nat.le_of_ble_eq_true rfl, Nat.le_of_ble_eq_true rfl⟩ hcl hw 0 4 rfl rfl rfl rfl (Nat.le_of_ble_eq_true rfl) dL_law_726 (fun vv uu H locs hp hw => ?_)
  obtain ⟨rfl, F, rfl⟩ := hp
  refine W.eq (g2 := F0 m 729 ls [.int (zm_how S (g 5) (xs (i + 1))).1, .int (zm_how S (g 5) (xs (i + 1))).1]) rfl ?_
  refine lv_icmp_eq (tgt := 1315) hx hb dL_law_729 (by decide) (fun _ => ?_) (fun hc => absurd rfl hc)
  exact kk _ _ _ (zLaw.std (r := (zm_how S (g 5) (xs (i + 1)))) (by rw [zm_how_S]; exact hI) hS hk h1 h2 h3) hw

set_option maxHeartbeats 4000000 in
set_option maxRecDepth 100000 in
theorem law_ring {p : Program} {e : Env} {s : State} {m : MethodId} {args : Array Value} {below : List Frame} {meth : Method} {c : Code} {H : Heap} {locs : List Loc} {cells slots : Nat} {Q : State → Prop} {x : zX} {A : Nat → Prop} {ls : Array Slot} {sc L i : Nat} {xs : Nat → Int32} {b : Nat → Nat} {t : Nat → Nat → Nat} {a : Nat → Nat} {u : va_W} (C : zCx x p s m args c A sc L xs cells slots) (hi : i + 6 ≤ L) (hl : lv_has ls 4 [(3, .int (nI i)), (2, .ref (a 0)), (1, .ref (b 0)), (0, .ref sc)]) (hu : zLaw x b t a u) (hw : zHw x A s.heap u H locs) (kk : ∀ (u : va_W) (H : Heap) (locs : List Loc), zLaw x b t a u → zHw x A s.heap u H locs → W p x.1 e room_1 s m args below meth c H locs cells slots Q (F0 m 1315 ls [])) : W p x.1 e room_1 s m args below meth c H locs cells slots Q (F0 m 734 ls []) := by
  obtain ⟨hx, hb, hml, hown, hts, hK, hE, hA, hX, hcl⟩ := C
  obtain ⟨S, l0, T, l1, K, l2, tq, nn, q, g, mv, n, rfl, hI, hS, hk, h1, h2, h3⟩ := hu
  refine lv_aload_n hx hb dL_law_734 rfl (lv_at hl 2 rfl) ?_
  refine zarg 1 hx hb hX hw.S hi hl (by decide) (by decide) dL_law_735 dL_law_736 dL_law_737 dL_law_738 dL_law_739 ?_
  refine zcVL hx hb hml hown hts hl.1 hK hE hA lkL_89 (c_X5_ring x b t S l0 T l1 K l2 (q 0) (g 5) (g 6) tq (g 7) (g 8) nn (xs (i + 1)) hI) ⟨Nat.le_of_ble_eq_true rfl, Nat.le_of_ble_eq_true rfl⟩ hcl hw 0 3 rfl rfl rfl rfl (Nat.le_of_ble_eq_true rfl) dL_law_740 (fun vv uu H locs hp hw => ?_)
  obtain ⟨rfl, l0, T, l1, rfl⟩ := hp
  refine W.eq (g2 := F0 m 743 ls [.int (zm_ring S (g 5) (xs (i + 1))).1]) rfl ?_
  refine lv_aload_n hx hb dL_law_743 rfl (lv_at hl 1 rfl) ?_
  refine zarg 1 hx hb hX hw.S hi hl (by decide) (by decide) dL_law_744 dL_law_745 dL_law_746 dL_law_747 dL_law_748 ?_
  refine zcVR hx hb hml hown hts hl.1 hK hE hA lkL_92 (c_X6_ring x a q g (zNM nn mv) S (xs (i + 1)) hI) ⟨Nat.le_of_ble_eq_true rfl, Nat.le_of_ble_eq_true rfl⟩ hcl hw 0 4 rfl rfl rfl rfl (Nat.le_of_ble_eq_true rfl) dL_law_749 (fun vv uu H locs hp hw => ?_)
  obtain ⟨rfl, F, rfl⟩ := hp
  refine W.eq (g2 := F0 m 752 ls [.int (zm_ring S (g 5) (xs (i + 1))).1, .int (zm_ring S (g 5) (xs (i + 1))).1]) rfl ?_
  refine lv_icmp_eq (tgt := 1315) hx hb dL_law_752 (by decide) (fun _ => ?_) (fun hc => absurd rfl hc)
  exact kk _ _ _ (zLaw.std (r := (zm_ring S (g 5) (xs (i + 1)))) (by rw [zm_ring_S]; exact hI) hS hk h1 h2 h3) hw

set_option maxHeartbeats 4000000 in
set_option maxRecDepth 100000 in
theorem law_men {p : Program} {e : Env} {s : State} {m : MethodId} {args : Array Value} {below : List Frame} {meth : Method} {c : Code} {H : Heap} {locs : List Loc} {cells slots : Nat} {Q : State → Prop} {x : zX} {A : Nat → Prop} {ls : Array Slot} {sc L i : Nat} {xs : Nat → Int32} {b : Nat → Nat} {t : Nat → Nat → Nat} {a : Nat → Nat} {u : va_W} (C : zCx x p s m args c A sc L xs cells slots) (hi : i + 6 ≤ L) (hl : lv_has ls 4 [(3, .int (nI i)), (2, .ref (a 0)), (1, .ref (b 0)), (0, .ref sc)]) (hu : zLaw x b t a u) (hw : zHw x A s.heap u H locs) (kk : ∀ (u : va_W) (H : Heap) (locs : List Loc), zLaw x b t a u → zHw x A s.heap u H locs → W p x.1 e room_1 s m args below meth c H locs cells slots Q (F0 m 1315 ls [])) : W p x.1 e room_1 s m args below meth c H locs cells slots Q (F0 m 757 ls []) := by
  obtain ⟨hx, hb, hml, hown, hts, hK, hE, hA, hX, hcl⟩ := C
  obtain ⟨S, l0, T, l1, K, l2, tq, nn, q, g, mv, n, rfl, hI, hS, hk, h1, h2, h3⟩ := hu
  refine lv_aload_n hx hb dL_law_757 rfl (lv_at hl 2 rfl) ?_
  refine zarg 1 hx hb hX hw.S hi hl (by decide) (by decide) dL_law_758 dL_law_759 dL_law_760 dL_law_761 dL_law_762 ?_
  refine zarg 2 hx hb hX hw.S hi hl (by decide) (by decide) dL_law_763 dL_law_764 dL_law_765 dL_law_766 dL_law_767 ?_
  refine zcVL hx hb hml hown hts hl.1 hK hE hA lkL_93 (c_X5_men x b t S l0 T l1 K l2 (q 0) (g 5) (g 6) tq (g 7) (g 8) nn (xs (i + 1)) (xs (i + 2)) hI) ⟨Nat.le_of_ble_eq_true rfl, Nat.le_of_ble_eq_true rfl⟩ hcl hw 0 3 rfl rfl rfl rfl (Nat.le_of_ble_eq_true rfl) dL_law_768 (fun vv uu H locs hp hw => ?_)
  obtain ⟨rfl, l0, T, l1, rfl⟩ := hp
  refine W.eq (g2 := F0 m 771 ls [.int (zm_least 4 6 52 S (g 5) (xs (i + 1)) (xs (i + 2))).1]) rfl ?_
  refine lv_aload_n hx hb dL_law_771 rfl (lv_at hl 1 rfl) ?_
  refine zarg 1 hx hb hX hw.S hi hl (by decide) (by decide) dL_law_772 dL_law_773 dL_law_774 dL_law_775 dL_law_776 ?_
  refine zarg 2 hx hb hX hw.S hi hl (by decide) (by decide) dL_law_777 dL_law_778 dL_law_779 dL_law_780 dL_law_781 ?_
  refine zcVR hx hb hml hown hts hl.1 hK hE hA lkL_96 (c_X6_men x a q g (zNM nn mv) S (xs (i + 1)) (xs (i + 2)) hI) ⟨Nat.le_of_ble_eq_true rfl, Nat.le_of_ble_eq_true rfl⟩ hcl hw 0 4 rfl rfl rfl rfl (Nat.le_of_ble_eq_true rfl) dL_law_782 (fun vv uu H locs hp hw => ?_)
  obtain ⟨rfl, F, rfl⟩ := hp
  refine W.eq (g2 := F0 m 785 ls [.int (zm_least 4 6 52 S (g 5) (xs (i + 1)) (xs (i + 2))).1, .int (zm_least 4 6 52 S (g 5) (xs (i + 1)) (xs (i + 2))).1]) rfl ?_
  refine lv_icmp_eq (tgt := 1315) hx hb dL_law_785 (by decide) (fun _ => ?_) (fun hc => absurd rfl hc)
  exact kk _ _ _ (zLaw.std (r := (zm_least 4 6 52 S (g 5) (xs (i + 1)) (xs (i + 2)))) (by rw [zm_least_S]; exact hI) hS hk h1 h2 h3) hw

set_option maxHeartbeats 4000000 in
set_option maxRecDepth 100000 in
theorem law_budget {p : Program} {e : Env} {s : State} {m : MethodId} {args : Array Value} {below : List Frame} {meth : Method} {c : Code} {H : Heap} {locs : List Loc} {cells slots : Nat} {Q : State → Prop} {x : zX} {A : Nat → Prop} {ls : Array Slot} {sc L i : Nat} {xs : Nat → Int32} {b : Nat → Nat} {t : Nat → Nat → Nat} {a : Nat → Nat} {u : va_W} (C : zCx x p s m args c A sc L xs cells slots) (hi : i + 6 ≤ L) (hl : lv_has ls 4 [(3, .int (nI i)), (2, .ref (a 0)), (1, .ref (b 0)), (0, .ref sc)]) (hu : zLaw x b t a u) (hw : zHw x A s.heap u H locs) (kk : ∀ (u : va_W) (H : Heap) (locs : List Loc), zLaw x b t a u → zHw x A s.heap u H locs → W p x.1 e room_1 s m args below meth c H locs cells slots Q (F0 m 1315 ls [])) : W p x.1 e room_1 s m args below meth c H locs cells slots Q (F0 m 790 ls []) := by
  obtain ⟨hx, hb, hml, hown, hts, hK, hE, hA, hX, hcl⟩ := C
  obtain ⟨S, l0, T, l1, K, l2, tq, nn, q, g, mv, n, rfl, hI, hS, hk, h1, h2, h3⟩ := hu
  refine lv_aload_n hx hb dL_law_790 rfl (lv_at hl 2 rfl) ?_
  refine zarg 1 hx hb hX hw.S hi hl (by decide) (by decide) dL_law_791 dL_law_792 dL_law_793 dL_law_794 dL_law_795 ?_
  refine zarg 2 hx hb hX hw.S hi hl (by decide) (by decide) dL_law_796 dL_law_797 dL_law_798 dL_law_799 dL_law_800 ?_
  refine zcVL hx hb hml hown hts hl.1 hK hE hA lkL_97 (c_X5_budget x b t S l0 T l1 K l2 (q 0) (g 5) (g 6) tq (g 7) (g 8) nn (xs (i + 1)) (xs (i + 2)) hI) ⟨Nat.le_of_ble_eq_true rfl, Nat.le_of_ble_eq_true rfl⟩ hcl hw 0 3 rfl rfl rfl rfl (Nat.le_of_ble_eq_true rfl) dL_law_801 (fun vv uu H locs hp hw => ?_)
  obtain ⟨rfl, l0, T, l1, rfl⟩ := hp
  refine W.eq (g2 := F0 m 804 ls [.int (zm_least 2 999 20 S (g 5) (xs (i + 1)) (xs (i + 2))).1]) rfl ?_
  refine lv_aload_n hx hb dL_law_804 rfl (lv_at hl 1 rfl) ?_
  refine zarg 1 hx hb hX hw.S hi hl (by decide) (by decide) dL_law_805 dL_law_806 dL_law_807 dL_law_808 dL_law_809 ?_
  refine zarg 2 hx hb hX hw.S hi hl (by decide) (by decide) dL_law_810 dL_law_811 dL_law_812 dL_law_813 dL_law_814 ?_
  refine zcVR hx hb hml hown hts hl.1 hK hE hA lkL_100 (c_X6_budget x a q g (zNM nn mv) S (xs (i + 1)) (xs (i + 2)) hI) ⟨Nat.le_of_ble_eq_true rfl, Nat.le_of_ble_eq_true rfl⟩ hcl hw 0 4 rfl rfl rfl rfl (Nat.le_of_ble_eq_true rfl) dL_law_815 (fun vv uu H locs hp hw => ?_)
  obtain ⟨rfl, F, rfl⟩ := hp
  refine W.eq (g2 := F0 m 818 ls [.int (zm_least 2 999 20 S (g 5) (xs (i + 1)) (xs (i + 2))).1, .int (zm_least 2 999 20 S (g 5) (xs (i + 1)) (xs (i + 2))).1]) rfl ?_
  refine lv_icmp_eq (tgt := 1315) hx hb dL_law_818 (by decide) (fun _ => ?_) (fun hc => absurd rfl hc)
  exact kk _ _ _ (zLaw.std (r := (zm_least 2 999 20 S (g 5) (xs (i + 1)) (xs (i + 2)))) (by rw [zm_least_S]; exact hI) hS hk h1 h2 h3) hw

set_option maxHeartbeats 4000000 in
set_option maxRecDepth 100000 in
theorem law_kind {p : Program} {e : Env} {s : State} {m : MethodId} {args : Array Value} {below : List Frame} {meth : Method} {c : Code} {H : Heap} {locs : List Loc} {cells slots : Nat} {Q : State → Prop} {x : zX} {A : Nat → Prop} {ls : Array Slot} {sc L i : Nat} {xs : Nat → Int32} {b : Nat → Nat} {t : Nat → Nat → Nat} {a : Nat → Nat} {u : va_W} (C : zCx x p s m args c A sc L xs cells slots) (hi : i + 6 ≤ L) (hl : lv_has ls 4 [(3, .int (nI i)), (2, .ref (a 0)), (1, .ref (b 0)), (0, .ref sc)]) (hu : zLaw x b t a u) (hw : zHw x A s.heap u H locs) (kk : ∀ (u : va_W) (H : Heap) (locs : List Loc), zLaw x b t a u → zHw x A s.heap u H locs → W p x.1 e room_1 s m args below meth c H locs cells slots Q (F0 m 1315 ls [])) : W p x.1 e room_1 s m args below meth c H locs cells slots Q (F0 m 823 ls []) := by
  obtain ⟨hx, hb, hml, hown, hts, hK, hE, hA, hX, hcl⟩ := C
  obtain ⟨S, l0, T, l1, K, l2, tq, nn, q, g, mv, n, rfl, hI, hS, hk, h1, h2, h3⟩ := hu
  refine lv_aload_n hx hb dL_law_823 rfl (lv_at hl 2 rfl) ?_
  refine zarg 1 hx hb hX hw.S hi hl (by decide) (by decide) dL_law_824 dL_law_825 dL_law_826 dL_law_827 dL_law_828 ?_
  refine zarg 2 hx hb hX hw.S hi hl (by decide) (by decide) dL_law_829 dL_law_830 dL_law_831 dL_law_832 dL_law_833 ?_
  refine zcVL hx hb hml hown hts hl.1 hK hE hA lkL_101 (c_X5_kind x b t S l0 T l1 K l2 (q 0) (g 5) (g 6) tq (g 7) (g 8) nn (xs (i + 1)) (xs (i + 2)) hI) ⟨Nat.le_of_ble_eq_true rfl, Nat.le_of_ble_eq_true rfl⟩ hcl hw 0 3 rfl rfl rfl rfl (Nat.le_of_ble_eq_true rfl) dL_law_834 (fun vv uu H locs hp hw => ?_)
  obtain ⟨rfl, l0, T, l1, rfl⟩ := hp
  refine W.eq (g2 := F0 m 837 ls [.int (zm_kind S (g 5) (xs (i + 1)) (xs (i + 2))).1]) rfl ?_
  refine lv_aload_n hx hb dL_law_837 rfl (lv_at hl 1 rfl) ?_
  refine zarg 1 hx hb hX hw.S hi hl (by decide) (by decide) dL_law_838 dL_law_839 dL_law_840 dL_law_841 dL_law_842 ?_
  refine zarg 2 hx hb hX hw.S hi hl (by decide) (by decide) dL_law_843 dL_law_844 dL_law_845 dL_law_846 dL_law_847 ?_
  refine zcVR hx hb hml hown hts hl.1 hK hE hA lkL_104 (c_X6_kind x a q g (zNM nn mv) S (xs (i + 1)) (xs (i + 2)) hI) ⟨Nat.le_of_ble_eq_true rfl, Nat.le_of_ble_eq_true rfl⟩ hcl hw 0 4 rfl rfl rfl rfl (Nat.le_of_ble_eq_true rfl) dL_law_848 (fun vv uu H locs hp hw => ?_)
  obtain ⟨rfl, F, rfl⟩ := hp
  refine W.eq (g2 := F0 m 851 ls [.int (zm_kind S (g 5) (xs (i + 1)) (xs (i + 2))).1, .int (zm_kind S (g 5) (xs (i + 1)) (xs (i + 2))).1]) rfl ?_
  refine lv_icmp_eq (tgt := 1315) hx hb dL_law_851 (by decide) (fun _ => ?_) (fun hc => absurd rfl hc)
  exact kk _ _ _ (zLaw.std (r := (zm_kind S (g 5) (xs (i + 1)) (xs (i + 2)))) (by rw [zm_kind_S]; exact hI) hS hk h1 h2 h3) hw

set_option maxHeartbeats 4000000 in
set_option maxRecDepth 100000 in
theorem law_let {p : Program} {e : Env} {s : State} {m : MethodId} {args : Array Value} {below : List Frame} {meth : Method} {c : Code} {H : Heap} {locs : List Loc} {cells slots : Nat} {Q : State → Prop} {x : zX} {A : Nat → Prop} {ls : Array Slot} {sc L i : Nat} {xs : Nat → Int32} {b : Nat → Nat} {t : Nat → Nat → Nat} {a : Nat → Nat} {u : va_W} (C : zCx x p s m args c A sc L xs cells slots) (hi : i + 6 ≤ L) (hl : lv_has ls 4 [(3, .int (nI i)), (2, .ref (a 0)), (1, .ref (b 0)), (0, .ref sc)]) (hu : zLaw x b t a u) (hw : zHw x A s.heap u H locs) (kk : ∀ (u : va_W) (H : Heap) (locs : List Loc), zLaw x b t a u → zHw x A s.heap u H locs → W p x.1 e room_1 s m args below meth c H locs cells slots Q (F0 m 1315 ls [])) : W p x.1 e room_1 s m args below meth c H locs cells slots Q (F0 m 856 ls []) := by
  obtain ⟨hx, hb, hml, hown, hts, hK, hE, hA, hX, hcl⟩ := C
  obtain ⟨S, l0, T, l1, K, l2, tq, nn, q, g, mv, n, rfl, hI, hS, hk, h1, h2, h3⟩ := hu
  refine lv_aload_n hx hb dL_law_856 rfl (lv_at hl 2 rfl) ?_
  refine zarg 1 hx hb hX hw.S hi hl (by decide) (by decide) dL_law_857 dL_law_858 dL_law_859 dL_law_860 dL_law_861 ?_
  refine zcVL hx hb hml hown hts hl.1 hK hE hA lkL_105 (c_X5_let x b t S l0 T l1 K l2 (q 0) (g 5) (g 6) tq (g 7) (g 8) nn (xs (i + 1)) hI) ⟨Nat.le_of_ble_eq_true rfl, Nat.le_of_ble_eq_true rfl⟩ hcl hw 0 3 rfl rfl rfl rfl (Nat.le_of_ble_eq_true rfl) dL_law_862 (fun vv uu H locs hp hw => ?_)
  obtain ⟨rfl, l0, T, l1, rfl⟩ := hp
  refine W.eq (g2 := F0 m 865 ls [.int (zm_let S (g 5) (xs (i + 1))).1]) rfl ?_
  refine lv_aload_n hx hb dL_law_865 rfl (lv_at hl 1 rfl) ?_
  refine zarg 1 hx hb hX hw.S hi hl (by decide) (by decide) dL_law_866 dL_law_867 dL_law_868 dL_law_869 dL_law_870 ?_
  refine zcVR hx hb hml hown hts hl.1 hK hE hA lkL_108 (c_X6_let x a q g (zNM nn mv) S (xs (i + 1)) hI) ⟨Nat.le_of_ble_eq_true rfl, Nat.le_of_ble_eq_true rfl⟩ hcl hw 0 4 rfl rfl rfl rfl (Nat.le_of_ble_eq_true rfl) dL_law_871 (fun vv uu H locs hp hw => ?_)
  obtain ⟨rfl, F, rfl⟩ := hp
  refine W.eq (g2 := F0 m 874 ls [.int (zm_let S (g 5) (xs (i + 1))).1, .int (zm_let S (g 5) (xs (i + 1))).1]) rfl ?_
  refine lv_icmp_eq (tgt := 1315) hx hb dL_law_874 (by decide) (fun _ => ?_) (fun hc => absurd rfl hc)
  exact kk _ _ _ (zLaw.std (r := (zm_let S (g 5) (xs (i + 1)))) (by rw [zm_let_S]; exact hI) hS hk h1 h2 h3) hw

set_option maxHeartbeats 4000000 in
set_option maxRecDepth 100000 in
theorem law_worst {p : Program} {e : Env} {s : State} {m : MethodId} {args : Array Value} {below : List Frame} {meth : Method} {c : Code} {H : Heap} {locs : List Loc} {cells slots : Nat} {Q : State → Prop} {x : zX} {A : Nat → Prop} {ls : Array Slot} {sc L i : Nat} {xs : Nat → Int32} {b : Nat → Nat} {t : Nat → Nat → Nat} {a : Nat → Nat} {u : va_W} (C : zCx x p s m args c A sc L xs cells slots) (hi : i + 6 ≤ L) (hl : lv_has ls 4 [(3, .int (nI i)), (2, .ref (a 0)), (1, .ref (b 0)), (0, .ref sc)]) (hu : zLaw x b t a u) (hw : zHw x A s.heap u H locs) (kk : ∀ (u : va_W) (H : Heap) (locs : List Loc), zLaw x b t a u → zHw x A s.heap u H locs → W p x.1 e room_1 s m args below meth c H locs cells slots Q (F0 m 1315 ls [])) : W p x.1 e room_1 s m args below meth c H locs cells slots Q (F0 m 879 ls []) := by
  obtain ⟨hx, hb, hml, hown, hts, hK, hE, hA, hX, hcl⟩ := C
  obtain ⟨S, l0, T, l1, K, l2, tq, nn, q, g, mv, n, rfl, hI, hS, hk, h1, h2, h3⟩ := hu
  refine lv_aload_n hx hb dL_law_879 rfl (lv_at hl 2 rfl) ?_
  refine zarg 1 hx hb hX hw.S hi hl (by decide) (by decide) dL_law_880 dL_law_881 dL_law_882 dL_law_883 dL_law_884 ?_
  refine zcVL hx hb hml hown hts hl.1 hK hE hA lkL_109 (c_X5_worst x b t S l0 T l1 K l2 (q 0) (g 5) (g 6) tq (g 7) (g 8) nn (xs (i + 1)) hI) ⟨Nat.le_of_ble_eq_true rfl, Nat.le_of_ble_eq_true rfl⟩ hcl hw 0 3 rfl rfl rfl rfl (Nat.le_of_ble_eq_true rfl) dL_law_885 (fun vv uu H locs hp hw => ?_)
  obtain ⟨rfl, l0, T, l1, rfl⟩ := hp
  refine W.eq (g2 := F0 m 888 ls [.int (zm_worst S (g 5) (xs (i + 1))).1]) rfl ?_
  refine lv_aload_n hx hb dL_law_888 rfl (lv_at hl 1 rfl) ?_
  refine zarg 1 hx hb hX hw.S hi hl (by decide) (by decide) dL_law_889 dL_law_890 dL_law_891 dL_law_892 dL_law_893 ?_
  refine zcVR hx hb hml hown hts hl.1 hK hE hA lkL_112 (c_X6_worst x a q g (zNM nn mv) S (xs (i + 1)) hI) ⟨Nat.le_of_ble_eq_true rfl, Nat.le_of_ble_eq_true rfl⟩ hcl hw 0 4 rfl rfl rfl rfl (Nat.le_of_ble_eq_true rfl) dL_law_894 (fun vv uu H locs hp hw => ?_)
  obtain ⟨rfl, F, rfl⟩ := hp
  refine W.eq (g2 := F0 m 897 ls [.int (zm_worst S (g 5) (xs (i + 1))).1, .int (zm_worst S (g 5) (xs (i + 1))).1]) rfl ?_
  refine lv_icmp_eq (tgt := 1315) hx hb dL_law_897 (by decide) (fun _ => ?_) (fun hc => absurd rfl hc)
  exact kk _ _ _ (zLaw.std (r := (zm_worst S (g 5) (xs (i + 1)))) (by rw [zm_worst_S]; exact hI) hS hk h1 h2 h3) hw
