/-! THE LAW: its loop -/
set_option maxHeartbeats 4000000 in
set_option maxRecDepth 100000 in
theorem law_loop {p : Program} {e : Env} {s : State} {m : MethodId} {args : Array Value} {below : List Frame} {meth : Method} {c : Code} {cells slots : Nat} {Q : State → Prop} {x : zX} {A : Nat → Prop} {sc L : Nat} {xs : Nat → Int32} {b : Nat → Nat} {t : Nat → Nat → Nat} {a : Nat → Nat} (C : zCx x p s m args c A sc L xs cells slots) (kx : ∀ (H : Heap) (locs : List Loc) (ls : Array Slot), va_S A s.heap H locs → W p x.1 e room_1 s m args below meth c H locs cells slots Q (F0 m 1322 ls [.int 1])) : ∀ (d i : Nat), L < i + d → i ≤ L → ∀ (u : va_W) (H : Heap) (locs : List Loc) (ls : Array Slot), lv_has ls 4 [(3, .int (nI i)), (2, .ref (a 0)), (1, .ref (b 0)), (0, .ref sc)] → zLaw x b t a u → zHw x A s.heap u H locs → W p x.1 e room_1 s m args below meth c H locs cells slots Q (F0 m 18 ls []) := by
  intro d
  induction d with
  | zero => intro i h1 h2; omega
  | succ d ih =>
    intro i hd hiL u H locs ls hl hu hw
    obtain ⟨hx, hb, hml, hown, hts, hK, hE, hA, hX, hcl⟩ := id C
    have hL := hX.2.2.2
    refine lv_iload_n hx hb dL_law_18 rfl (lv_at hl 0 rfl) ?_
    refine lv_aload_n hx hb dL_law_19 rfl (lv_at hl 3 rfl) ?_
    refine va_slen hx hb hX.1 hX.2.1 hX.2.2.1 hw.S dL_law_20 ?_
    refine lv_bipush (v := 6) hx hb dL_law_21 (by decide) ?_
    refine lv_isub hx hb dL_law_23 ?_
    refine lv_icmp_gt (tgt := 1321) hx hb dL_law_24 (by decide) (fun _ => ?_) (fun c24 => ?_)
    · refine lv_iconst (v := 1) hx hb dL_law_1321 (by decide) ?_
      exact kx _ _ _ hw.S
    · have hi : i + 6 ≤ L := zend hL hiL c24
      refine lv_aload_n hx hb dL_law_27 rfl (lv_at hl 3 rfl) ?_
      refine lv_iload_n hx hb dL_law_28 rfl (lv_at hl 0 rfl) ?_
      refine va_sld hx hb hX.1 hX.2.1 hX.2.2.1 hw.S (vp_in_nI (by omega) (by omega)) dL_law_29 ?_
      refine lv_bipush (v := 63) hx hb dL_law_30 (by decide) ?_
      refine lv_iand hx hb dL_law_32 ?_
      have kk : ∀ (u : va_W) (H : Heap) (locs : List Loc), zLaw x b t a u → zHw x A s.heap u H locs → W p x.1 e room_1 s m args below meth c H locs cells slots Q (F0 m 1315 ls []) := by
        intro u H locs hu hw
        refine lv_iinc (v := nI (i + 6)) (lv' := [(3, .int (nI (i + 6))), (2, .ref (a 0)), (1, .ref (b 0)), (0, .ref sc)]) hx hb dL_law_1315 hl (k := 0) rfl (by rw [show Int32.ofInt 6 = nI 6 from by decide]; exact nI_add i 6) (by decide) rfl (fun ls hl => ?_)
        refine lv_goto (tgt := 18) hx hb dL_law_1318 (by decide) ?_
        exact ih (i + 6) (by omega) hi u H locs ls hl hu hw
      refine lv_topi (fun vv _ => ?_)
      rcases zcase38 vv with ho | ⟨j, hj, rfl⟩
      · refine lv_tableOut (tgt := 1315) hx hb dL_law_33 ho (by decide) ?_
        exact kk u H locs hu hw
      · rcases (show j = 0 ∨ j = 1 ∨ j = 2 ∨ j = 3 ∨ j = 4 ∨ j = 5 ∨ j = 6 ∨ j = 7 ∨ j = 8 ∨ j = 9 ∨ j = 10 ∨ j = 11 ∨ j = 12 ∨ j = 13 ∨ j = 14 ∨ j = 15 ∨ j = 16 ∨ j = 17 ∨ j = 18 ∨ j = 19 ∨ j = 20 ∨ j = 21 ∨ j = 22 ∨ j = 23 ∨ j = 24 ∨ j = 25 ∨ j = 26 ∨ j = 27 ∨ j = 28 ∨ j = 29 ∨ j = 30 ∨ j = 31 ∨ j = 32 ∨ j = 33 ∨ j = 34 ∨ j = 35 ∨ j = 36 ∨ j = 37 by omega) with rfl | rfl | rfl | rfl | rfl | rfl | rfl | rfl | rfl | rfl | rfl | rfl | rfl | rfl | rfl | rfl | rfl | rfl | rfl | rfl | rfl | rfl | rfl | rfl | rfl | rfl | rfl | rfl | rfl | rfl | rfl | rfl | rfl | rfl | rfl | rfl | rfl | rfl
        · refine lv_tableIn (off := 167) (tgt := 200) hx hb dL_law_33 (by decide +kernel) (by decide +kernel) (by decide +kernel) (by decide) ?_
          exact law_town C hi hl hu hw kk
        · refine lv_tableIn (off := 200) (tgt := 233) hx hb dL_law_33 (by decide +kernel) (by decide +kernel) (by decide +kernel) (by decide) ?_
          exact law_street C hi hl hu hw kk
        · refine lv_tableIn (off := 243) (tgt := 276) hx hb dL_law_33 (by decide +kernel) (by decide +kernel) (by decide +kernel) (by decide) ?_
          exact law_streetOf C hi hl hu hw kk
        · refine lv_tableIn (off := 276) (tgt := 309) hx hb dL_law_33 (by decide +kernel) (by decide +kernel) (by decide +kernel) (by decide) ?_
          exact law_hole C hi hl hu hw kk
        · refine lv_tableIn (off := 309) (tgt := 342) hx hb dL_law_33 (by decide +kernel) (by decide +kernel) (by decide +kernel) (by decide) ?_
          exact law_of C hi hl hu hw kk
        · refine lv_tableIn (off := 342) (tgt := 375) hx hb dL_law_33 (by decide +kernel) (by decide +kernel) (by decide +kernel) (by decide) ?_
          exact law_set C hi hl hu hw kk
        · refine lv_tableIn (off := 385) (tgt := 418) hx hb dL_law_33 (by decide +kernel) (by decide +kernel) (by decide +kernel) (by decide) ?_
          exact law_turn C hi hl hu hw kk
        · refine lv_tableIn (off := 418) (tgt := 451) hx hb dL_law_33 (by decide +kernel) (by decide +kernel) (by decide +kernel) (by decide) ?_
          exact law_as C hi hl hu hw kk
        · refine lv_tableIn (off := 451) (tgt := 484) hx hb dL_law_33 (by decide +kernel) (by decide +kernel) (by decide +kernel) (by decide) ?_
          exact law_fill C hi hl hu hw kk
        · refine lv_tableIn (off := 484) (tgt := 517) hx hb dL_law_33 (by decide +kernel) (by decide +kernel) (by decide +kernel) (by decide) ?_
          exact law_next C hi hl hu hw kk
        · refine lv_tableIn (off := 497) (tgt := 530) hx hb dL_law_33 (by decide +kernel) (by decide +kernel) (by decide +kernel) (by decide) ?_
          exact law_weeks C hi hl hu hw kk
        · refine lv_tableIn (off := 520) (tgt := 553) hx hb dL_law_33 (by decide +kernel) (by decide +kernel) (by decide +kernel) (by decide) ?_
          exact law_now C hi hl hu hw kk
        · refine lv_tableIn (off := 543) (tgt := 576) hx hb dL_law_33 (by decide +kernel) (by decide +kernel) (by decide +kernel) (by decide) ?_
          exact law_on C hi hl hu hw kk
        · refine lv_tableIn (off := 586) (tgt := 619) hx hb dL_law_33 (by decide +kernel) (by decide +kernel) (by decide +kernel) (by decide) ?_
          exact law_worse C hi hl hu hw kk
        · refine lv_tableIn (off := 609) (tgt := 642) hx hb dL_law_33 (by decide +kernel) (by decide +kernel) (by decide +kernel) (by decide) ?_
          exact law_cost C hi hl hu hw kk
        · refine lv_tableIn (off := 632) (tgt := 665) hx hb dL_law_33 (by decide +kernel) (by decide +kernel) (by decide +kernel) (by decide) ?_
          exact law_filled C hi hl hu hw kk
        · refine lv_tableIn (off := 655) (tgt := 688) hx hb dL_law_33 (by decide +kernel) (by decide +kernel) (by decide +kernel) (by decide) ?_
          exact law_breaks C hi hl hu hw kk
        · refine lv_tableIn (off := 678) (tgt := 711) hx hb dL_law_33 (by decide +kernel) (by decide +kernel) (by decide +kernel) (by decide) ?_
          exact law_how C hi hl hu hw kk
        · refine lv_tableIn (off := 701) (tgt := 734) hx hb dL_law_33 (by decide +kernel) (by decide +kernel) (by decide +kernel) (by decide) ?_
          exact law_ring C hi hl hu hw kk
        · refine lv_tableIn (off := 724) (tgt := 757) hx hb dL_law_33 (by decide +kernel) (by decide +kernel) (by decide +kernel) (by decide) ?_
          exact law_men C hi hl hu hw kk
        · refine lv_tableIn (off := 757) (tgt := 790) hx hb dL_law_33 (by decide +kernel) (by decide +kernel) (by decide +kernel) (by decide) ?_
          exact law_budget C hi hl hu hw kk
        · refine lv_tableIn (off := 790) (tgt := 823) hx hb dL_law_33 (by decide +kernel) (by decide +kernel) (by decide +kernel) (by decide) ?_
          exact law_kind C hi hl hu hw kk
        · refine lv_tableIn (off := 823) (tgt := 856) hx hb dL_law_33 (by decide +kernel) (by decide +kernel) (by decide +kernel) (by decide) ?_
          exact law_let C hi hl hu hw kk
        · refine lv_tableIn (off := 846) (tgt := 879) hx hb dL_law_33 (by decide +kernel) (by decide +kernel) (by decide +kernel) (by decide) ?_
          exact law_worst C hi hl hu hw kk
        · refine lv_tableIn (off := 869) (tgt := 902) hx hb dL_law_33 (by decide +kernel) (by decide +kernel) (by decide +kernel) (by decide) ?_
          exact law_feed C hi hl hu hw kk
        · refine lv_tableIn (off := 902) (tgt := 935) hx hb dL_law_33 (by decide +kernel) (by decide +kernel) (by decide +kernel) (by decide) ?_
          exact law_wipe C hi hl hu hw kk
        · refine lv_tableIn (off := 915) (tgt := 948) hx hb dL_law_33 (by decide +kernel) (by decide +kernel) (by decide +kernel) (by decide) ?_
          exact law_text C hi hl hu hw kk
        · refine lv_tableIn (off := 928) (tgt := 961) hx hb dL_law_33 (by decide +kernel) (by decide +kernel) (by decide +kernel) (by decide) ?_
          exact law_sheet C hi hl hu hw kk
        · refine lv_tableIn (off := 971) (tgt := 1004) hx hb dL_law_33 (by decide +kernel) (by decide +kernel) (by decide +kernel) (by decide) ?_
          exact law_write C hi hl hu hw kk
        · refine lv_tableIn (off := 1045) (tgt := 1078) hx hb dL_law_33 (by decide +kernel) (by decide +kernel) (by decide +kernel) (by decide) ?_
          exact law_copy C hi hl hu hw kk
        · refine lv_tableIn (off := 1108) (tgt := 1141) hx hb dL_law_33 (by decide +kernel) (by decide +kernel) (by decide +kernel) (by decide) ?_
          exact law_lays C hi hl hu hw kk
        · refine lv_tableIn (off := 1131) (tgt := 1164) hx hb dL_law_33 (by decide +kernel) (by decide +kernel) (by decide +kernel) (by decide) ?_
          exact law_book C hi hl hu hw kk
        · refine lv_tableIn (off := 1164) (tgt := 1197) hx hb dL_law_33 (by decide +kernel) (by decide +kernel) (by decide +kernel) (by decide) ?_
          exact law_read C hi hl hu hw kk
        · refine lv_tableIn (off := 1197) (tgt := 1230) hx hb dL_law_33 (by decide +kernel) (by decide +kernel) (by decide +kernel) (by decide) ?_
          exact law_image C hi hl hu hw kk
        · refine lv_tableIn (off := 1210) (tgt := 1243) hx hb dL_law_33 (by decide +kernel) (by decide +kernel) (by decide +kernel) (by decide) ?_
          exact law_undo C hi hl hu hw kk
        · refine lv_tableIn (off := 1223) (tgt := 1256) hx hb dL_law_33 (by decide +kernel) (by decide +kernel) (by decide +kernel) (by decide) ?_
          exact law_tear C hi hl hu hw kk
        · refine lv_tableIn (off := 1236) (tgt := 1269) hx hb dL_law_33 (by decide +kernel) (by decide +kernel) (by decide +kernel) (by decide) ?_
          exact law_count C hi hl hu hw kk
        · refine lv_tableIn (off := 1259) (tgt := 1292) hx hb dL_law_33 (by decide +kernel) (by decide +kernel) (by decide +kernel) (by decide) ?_
          exact law_status C hi hl hu hw kk
