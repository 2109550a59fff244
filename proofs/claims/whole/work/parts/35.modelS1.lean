set_option maxHeartbeats 4000000 in
set_option maxRecDepth 100000 in
theorem c_X6_isOne (x : zX) (w : va_W) (v : Int32) : zFF x mX6_isOne 1 [.int v] (w) (some (.int (zb (0 ≤ v ∧ v < 4)))) (w) := by
  refine zFG.start RX6 cX6_isOne 1 (some .boolean) rfl rfl (by decide +kernel) (Nat.le_of_ble_eq_true rfl) ?_
  intro p e s m ar below meth c ls A Q hx hb hr hml hown hts hlocks hK hE hA hQ hl hw
  have hl : lv_has ls 1 [(0, .int v)] := hl
  have hw : zHw x A s.heap (w) s.heap [] := hw
  refine lv_iload_n hx hb dX6_isOne_0 rfl (lv_at hl 0 rfl) ?_
  refine lv_i2l hx hb dX6_isOne_1 rfl ?_
  refine lv_lconst (v := 0) hx hb dX6_isOne_2 (by decide) ?_
  refine lv_ldc2 (v := 3) hx hb hown (hts _ ckX6_55) dX6_isOne_3 ?_
  refine zcSwi (r := zb (0 ≤ v ∧ v ≤ 3)) hx hb hml hown hts hl.1 hK hE hA lkX6_48 (c_X6_inI x (w) v 0 3) ⟨Nat.le_of_ble_eq_true rfl, Nat.le_of_ble_eq_true rfl⟩ ⟨Nat.zero_le _, Nat.zero_le _⟩ hw rfl rfl (Nat.le_of_ble_eq_true rfl) dX6_isOne_6 (fun H locs hw => ?_)
  have hw : zHw x A s.heap (w) H locs := hw
  exact zFG.zret hx hb hr hlocks hQ hw rfl dX6_isOne_9 (zb2i_nar _) ⟨zsi (zb_iff ⟨fun h => ⟨h.1, Int32.lt_iff_toInt_lt.mpr (by have := Int32.le_iff_toInt_le.mp h.2; have e : (3 : Int32).toInt = 3 := rfl; have e6 : (4 : Int32).toInt = 4 := rfl; omega)⟩, fun h => ⟨h.1, Int32.le_iff_toInt_le.mpr (by have := Int32.lt_iff_toInt_lt.mp h.2; have e : (3 : Int32).toInt = 3 := rfl; have e6 : (4 : Int32).toInt = 4 := rfl; omega)⟩⟩), rfl⟩

set_option maxHeartbeats 4000000 in
set_option maxRecDepth 100000 in
theorem c_X6_narrowed (x : zX) (w : va_W) (bi : Int32) (v : Int64) : zFF x mX6_narrowed 0 [.int bi, .long v] (w) (some (.long (zna bi v))) (w) := by
  refine zFG.start RX6 cX6_narrowed 3 (some .long) rfl rfl (by decide +kernel) (Nat.le_of_ble_eq_true rfl) ?_
  intro p e s m ar below meth c ls A Q hx hb hr hml hown hts hlocks hK hE hA hQ hl hw
  have hl : lv_has ls 3 [(0, .int bi), (1, .long v)] := hl
  have hw : zHw x A s.heap (w) s.heap [] := hw
  refine lv_iload_n hx hb dX6_narrowed_0 rfl (lv_at hl 0 rfl) ?_
  refine lv_bipush (v := 8) hx hb dX6_narrowed_1 (by decide) ?_
  refine lv_icmp_ne (tgt := 13) hx hb dX6_narrowed_3 (by decide) (fun c3 => ?_) (fun c3 => ?_)
  · refine lv_iload_n hx hb dX6_narrowed_13 rfl (lv_at hl 0 rfl) ?_
    refine lv_bipush (v := 16) hx hb dX6_narrowed_14 (by decide) ?_
    refine lv_icmp_ne (tgt := 26) hx hb dX6_narrowed_16 (by decide) (fun c16 => ?_) (fun c16 => ?_)
    · refine lv_lload_n hx hb dX6_narrowed_26 rfl (lv_at hl 1 rfl) ?_
      exact zFG.lret hx hb hr hlocks hQ hw rfl dX6_narrowed_27 ⟨zsl (by unfold zna; first | (rw [if_pos c3]; done) | (rw [if_neg c3, if_pos c16]; done) | (rw [if_neg c3, if_neg c16]; done)), rfl⟩
    · refine lv_lload_n hx hb dX6_narrowed_19 rfl (lv_at hl 1 rfl) ?_
      refine lv_l2i hx hb dX6_narrowed_20 rfl ?_
      refine lv_i2s hx hb dX6_narrowed_21 rfl ?_
      refine lv_i2l hx hb dX6_narrowed_22 rfl ?_
      refine lv_goto (tgt := 27) hx hb dX6_narrowed_23 (by decide) ?_
      exact zFG.lret hx hb hr hlocks hQ hw rfl dX6_narrowed_27 ⟨zsl (by unfold zna; first | (rw [if_pos c3]; done) | (rw [if_neg c3, if_pos c16]; done) | (rw [if_neg c3, if_neg c16]; done)), rfl⟩
  · refine lv_lload_n hx hb dX6_narrowed_6 rfl (lv_at hl 1 rfl) ?_
    refine lv_l2i hx hb dX6_narrowed_7 rfl ?_
    refine lv_i2b hx hb dX6_narrowed_8 rfl ?_
    refine lv_i2l hx hb dX6_narrowed_9 rfl ?_
    refine lv_goto (tgt := 27) hx hb dX6_narrowed_10 (by decide) ?_
    exact zFG.lret hx hb hr hlocks hQ hw rfl dX6_narrowed_27 ⟨zsl (by unfold zna; first | (rw [if_pos c3]; done) | (rw [if_neg c3, if_pos c16]; done) | (rw [if_neg c3, if_neg c16]; done)), rfl⟩

set_option maxHeartbeats 4000000 in
set_option maxRecDepth 100000 in
theorem c_X6_wrongSheet_no (x : zX) (a : Nat → Nat) (q : Nat → Int32) (g : zT) (nn : zNN) (mv : Nat → Int64) (S : zT) (y : Int32) (hno : ¬ z4 y) : zFF x mX6_wrongSheet 2 [.ref (a 0), .int y] (zMW x a q g (zNM nn mv) (zflat S)) (some (.int (-1000000001))) (zMW x a q g (zNM nn mv) (zflat S)) := by
  refine zFG.start RX6 cX6_wrongSheet 2 (some .int) rfl rfl (by decide +kernel) (Nat.le_of_ble_eq_true rfl) ?_
  intro p e s m ar below meth c ls A Q hx hb hr hml hown hts hlocks hK hE hA hQ hl hw
  have hl : lv_has ls 2 [(0, .ref (a 0)), (1, .int y)] := hl
  have hw : zHw x A s.heap (zMW x a q g (zNM nn mv) (zflat S)) s.heap [] := hw
  refine lv_iload_n hx hb dX6_wrongSheet_0 rfl (lv_at hl 1 rfl) ?_
  refine zcSwi (r := zb (0 ≤ y ∧ y < 4)) hx hb hml hown hts hl.1 hK hE hA lkX6_293 (c_X6_isOne x (zMW x a q g (zNM nn mv) (zflat S)) y) ⟨Nat.le_of_ble_eq_true rfl, Nat.le_of_ble_eq_true rfl⟩ ⟨Nat.zero_le _, Nat.zero_le _⟩ hw rfl rfl (Nat.le_of_ble_eq_true rfl) dX6_wrongSheet_1 (fun H locs hw => ?_)
  have hw : zHw x A s.heap (zMW x a q g (zNM nn mv) (zflat S)) H locs := hw
  refine lv_if_ne (tgt := 12) hx hb dX6_wrongSheet_4 (by decide) (fun c4 => absurd c4 (fun h => h (zb_0.mpr hno))) (fun c4 => ?_)
  refine lv_ldc (v := (-1000000001)) hx hb hown (hts _ ckX6_45) dX6_wrongSheet_7 ?_
  refine lv_goto (tgt := 28) hx hb dX6_wrongSheet_9 (by decide) ?_
  exact zFG.iret hx hb hr hlocks hQ hw rfl dX6_wrongSheet_28 ⟨rfl, rfl⟩

set_option maxHeartbeats 4000000 in
set_option maxRecDepth 100000 in
theorem c_X6_wrongSheet_0 (x : zX) (a : Nat → Nat) (q : Nat → Int32) (g : zT) (nn : zNN) (mv : Nat → Int64) (S : zT) (j : Nat) (hj : j < 4) (hz : g 7 j = 0) : zFF x mX6_wrongSheet 2 [.ref (a 0), .int (nI j)] (zMW x a q g (zNM nn mv) (zflat S)) (some (.int (-1000000006))) (zMW x a q g (zNM nn mv) (zflat S)) := by
  refine zFG.start RX6 cX6_wrongSheet 2 (some .int) rfl rfl (by decide +kernel) (Nat.le_of_ble_eq_true rfl) ?_
  intro p e s m ar below meth c ls A Q hx hb hr hml hown hts hlocks hK hE hA hQ hl hw
  have hl : lv_has ls 2 [(0, .ref (a 0)), (1, .int (nI j))] := hl
  have hw : zHw x A s.heap (zMW x a q g (zNM nn mv) (zflat S)) s.heap [] := hw
  refine lv_iload_n hx hb dX6_wrongSheet_0 rfl (lv_at hl 1 rfl) ?_
  refine zcSwi (r := zb (0 ≤ nI j ∧ nI j < 4)) hx hb hml hown hts hl.1 hK hE hA lkX6_293 (c_X6_isOne x (zMW x a q g (zNM nn mv) (zflat S)) (nI j)) ⟨Nat.le_of_ble_eq_true rfl, Nat.le_of_ble_eq_true rfl⟩ ⟨Nat.zero_le _, Nat.zero_le _⟩ hw rfl rfl (Nat.le_of_ble_eq_true rfl) dX6_wrongSheet_1 (fun H locs hw => ?_)
  have hw : zHw x A s.heap (zMW x a q g (zNM nn mv) (zflat S)) H locs := hw
  refine lv_if_ne (tgt := 12) hx hb dX6_wrongSheet_4 (by decide) (fun c4 => ?_) (fun c4 => absurd c4 (zb_n0.mpr (z4_of hj)))
  refine lv_aload_n hx hb dX6_wrongSheet_12 rfl (lv_at hl 0 rfl) ?_
  refine gfX6_28 hx hb hown hts hK hw 0 rfl rfl dX6_wrongSheet_13 ?_
  refine lv_iload_n hx hb dX6_wrongSheet_16 rfl (lv_at hl 1 rfl) ?_
  refine zial hx hb hK hw 7 0 j rfl rfl rfl (by omega) (by decide) dX6_wrongSheet_17 ?_
  refine lv_if_ne (tgt := 27) hx hb dX6_wrongSheet_18 (by decide) (fun c18 => absurd c18 (fun h => h hz)) (fun c18 => ?_)
  refine lv_ldcw (v := (-1000000006)) hx hb hown (hts _ ckX6_297) dX6_wrongSheet_21 ?_
  refine lv_goto (tgt := 28) hx hb dX6_wrongSheet_24 (by decide) ?_
  exact zFG.iret hx hb hr hlocks hQ hw rfl dX6_wrongSheet_28 ⟨rfl, rfl⟩

set_option maxHeartbeats 4000000 in
set_option maxRecDepth 100000 in
theorem c_X6_wrongSheet_1 (x : zX) (a : Nat → Nat) (q : Nat → Int32) (g : zT) (nn : zNN) (mv : Nat → Int64) (S : zT) (j : Nat) (hj : j < 4) (hz : ¬ g 7 j = 0) : zFF x mX6_wrongSheet 2 [.ref (a 0), .int (nI j)] (zMW x a q g (zNM nn mv) (zflat S)) (some (.int 0)) (zMW x a q g (zNM nn mv) (zflat S)) := by
  refine zFG.start RX6 cX6_wrongSheet 2 (some .int) rfl rfl (by decide +kernel) (Nat.le_of_ble_eq_true rfl) ?_
  intro p e s m ar below meth c ls A Q hx hb hr hml hown hts hlocks hK hE hA hQ hl hw
  have hl : lv_has ls 2 [(0, .ref (a 0)), (1, .int (nI j))] := hl
  have hw : zHw x A s.heap (zMW x a q g (zNM nn mv) (zflat S)) s.heap [] := hw
  refine lv_iload_n hx hb dX6_wrongSheet_0 rfl (lv_at hl 1 rfl) ?_
  refine zcSwi (r := zb (0 ≤ nI j ∧ nI j < 4)) hx hb hml hown hts hl.1 hK hE hA lkX6_293 (c_X6_isOne x (zMW x a q g (zNM nn mv) (zflat S)) (nI j)) ⟨Nat.le_of_ble_eq_true rfl, Nat.le_of_ble_eq_true rfl⟩ ⟨Nat.zero_le _, Nat.zero_le _⟩ hw rfl rfl (Nat.le_of_ble_eq_true rfl) dX6_wrongSheet_1 (fun H locs hw => ?_)
  have hw : zHw x A s.heap (zMW x a q g (zNM nn mv) (zflat S)) H locs := hw
  refine lv_if_ne (tgt := 12) hx hb dX6_wrongSheet_4 (by decide) (fun c4 => ?_) (fun c4 => absurd c4 (zb_n0.mpr (z4_of hj)))
  refine lv_aload_n hx hb dX6_wrongSheet_12 rfl (lv_at hl 0 rfl) ?_
  refine gfX6_28 hx hb hown hts hK hw 0 rfl rfl dX6_wrongSheet_13 ?_
  refine lv_iload_n hx hb dX6_wrongSheet_16 rfl (lv_at hl 1 rfl) ?_
  refine zial hx hb hK hw 7 0 j rfl rfl rfl (by omega) (by decide) dX6_wrongSheet_17 ?_
  refine lv_if_ne (tgt := 27) hx hb dX6_wrongSheet_18 (by decide) (fun c18 => ?_) (fun c18 => absurd c18 (hz))
  refine lv_iconst (v := 0) hx hb dX6_wrongSheet_27 (by decide) ?_
  exact zFG.iret hx hb hr hlocks hQ hw rfl dX6_wrongSheet_28 ⟨rfl, rfl⟩

set_option maxHeartbeats 4000000 in
set_option maxRecDepth 100000 in
theorem c_X6_sheet (x : zX) (a : Nat → Nat) (q : Nat → Int32) (g : zT) (nn : zNN) (mv : Nat → Int64) (S : zT) (y vb vn : Int32) : zFG x mX6_sheet 2 [.ref (a 0), .int y, .int vb, .int vn] (zMW x a q g (zNM nn mv) (zflat S)) (fun v' u' => v' = some (.int (zm_sheet (g 7) (g 8) nn (g 5) y vb vn).1) ∧ zPS x a q g S ((zm_sheet (g 7) (g 8) nn (g 5) y vb vn).2.2.2.1) ((zm_sheet (g 7) (g 8) nn (g 5) y vb vn).2.1) ((zm_sheet (g 7) (g 8) nn (g 5) y vb vn).2.2.1) ((zm_sheet (g 7) (g 8) nn (g 5) y vb vn).2.2.2.2) u') := by
  refine zFG.start RX6 cX6_sheet 5 (some .int) rfl rfl (by decide +kernel) (Nat.le_of_ble_eq_true rfl) ?_
  intro p e s m ar below meth c ls A Q hx hb hr hml hown hts hlocks hK hE hA hQ hl hw
  have hl : lv_has ls 5 [(0, .ref (a 0)), (1, .int y), (2, .int vb), (3, .int vn)] := hl
  have hw : zHw x A s.heap (zMW x a q g (zNM nn mv) (zflat S)) s.heap [] := hw
  have K36 :  (c4c : 0 ≤ y ∧ y < 4) → (hbt : zbt vb) → ∀ (H : Heap) (locs : List Loc) (ls : Array Slot), zHw x A s.heap (zMW x a q g (zNM nn mv) (zflat S)) H locs → lv_has ls 5 [(0, .ref (a 0)), (1, .int y), (2, .int vb), (3, .int vn)] → W p x.1 e (zRM 2) s m ar below meth c H locs 0 0 Q (F0 m 36 ls []) := by
    intro  c4c hbt H locs ls hw hl
    refine lv_iload_n hx hb dX6_sheet_36 rfl (lv_at hl 3 rfl) ?_
    refine lv_if_ge (tgt := 48) hx hb dX6_sheet_37 (by decide) (fun c37 => ?_) (fun c37 => ?_)
    · refine lv_iload_n hx hb dX6_sheet_48 rfl (lv_at hl 3 rfl) ?_
      refine lv_bipush (v := 40) hx hb dX6_sheet_49 (by decide) ?_
      refine lv_icmp_le (tgt := 61) hx hb dX6_sheet_51 (by decide) (fun c51 => ?_) (fun c51 => ?_)
      · obtain ⟨j, hj, rfl⟩ := z4_nat c4c
        refine lv_aload_n hx hb dX6_sheet_61 rfl (lv_at hl 0 rfl) ?_
        refine gfX6_28 hx hb hown hts hK hw 0 rfl rfl dX6_sheet_62 ?_
        refine lv_iload_n hx hb dX6_sheet_65 rfl (lv_at hl 1 rfl) ?_
        refine lv_iload_n hx hb dX6_sheet_66 rfl (lv_at hl 2 rfl) ?_
        refine zias hx hb hK hw 7 0 j rfl rfl rfl (by omega) (by decide) dX6_sheet_67 (fun H locs hw => ?_)
        have hw : zHw x A s.heap (zMW x a q (zU g 7 j vb) (zNM nn mv) (zflat S)) H locs := hw
        refine lv_aload_n hx hb dX6_sheet_68 rfl (lv_at hl 0 rfl) ?_
        refine gfX6_31 hx hb hown hts hK hw 0 rfl rfl dX6_sheet_69 ?_
        refine lv_iload_n hx hb dX6_sheet_72 rfl (lv_at hl 1 rfl) ?_
        refine lv_iload_n hx hb dX6_sheet_73 rfl (lv_at hl 2 rfl) ?_
        refine lv_if_ne (tgt := 81) hx hb dX6_sheet_74 (by decide) (fun c74 => ?_) (fun c74 => ?_)
        · refine lv_iload_n hx hb dX6_sheet_81 rfl (lv_at hl 3 rfl) ?_
          refine zias hx hb hK hw 8 0 j rfl rfl rfl (by omega) (by decide) dX6_sheet_82 (fun H locs hw => ?_)
          have hw : zHw x A s.heap (zMW x a q (zU (zU g 7 j vb) 8 j vn) (zNM nn mv) (zflat S)) H locs := hw
          refine lv_iconst (v := 0) hx hb dX6_sheet_83 (by decide) ?_
          refine lv_istore (lv' := [(4, .int 0), (0, .ref (a 0)), (1, .int (nI j)), (2, .int vb), (3, .int vn)]) hx hb dX6_sheet_84 hl (by decide) rfl (fun ls hl => ?_)
          have loop86 : ∀ (dd : Nat) (k : Nat), 40 - k < dd → (hk : k ≤ 40) → ∀ (H : Heap) (locs : List Loc) (ls : Array Slot), zHw x A s.heap (zMW x a q (zU (zU g 7 j vb) 8 j vn) (zNM (zVL nn j (zflL (fun _ => 0) (nn j) k)) mv) (zflat S)) H locs → lv_has ls 5 [(0, .ref (a 0)), (1, .int (nI j)), (4, .int (nI k))] → W p x.1 e (zRM 2) s m ar below meth c H locs 0 0 Q (F0 m 86 ls []) := by
            intro dd
            induction dd with
            | zero => intro k hm; exact absurd hm (Nat.not_lt_zero _)
            | succ dd ih86 =>
              intro k hm hk H locs ls hw hl
              refine lv_iload hx hb dX6_sheet_86 (lv_at hl 2 rfl) ?_
              refine lv_bipush (v := 40) hx hb dX6_sheet_88 (by decide) ?_
              refine lv_icmp_ge (tgt := 112) hx hb dX6_sheet_90 (by decide) (fun c90 => ?_) (fun c90 => ?_)
              · have hke : k = 40 := zke (v := 40) rfl (by omega) hk c90
                have hw : zHw x A s.heap (zMW x a q (zU (zU g 7 j vb) 8 j vn) (zNM (zVL nn j (fun _ => 0)) mv) (zflat S)) H locs := hw.re (congrArg (fun z => zMW x a q _ z _) (zNM_fill (nn := nn) (mv := mv) (j := j) hke))
                refine lv_aload_n hx hb dX6_sheet_112 rfl (lv_at hl 0 rfl) ?_
                refine gfX6_31 hx hb hown hts hK hw 0 rfl rfl dX6_sheet_113 ?_
                refine lv_iload_n hx hb dX6_sheet_116 rfl (lv_at hl 1 rfl) ?_
                refine zial hx hb hK hw 8 0 j rfl rfl rfl (by omega) (by decide) dX6_sheet_117 ?_
                exact zFG.iret hx hb hr hlocks hQ hw rfl dX6_sheet_118 (by rw [show zm_sheet (g 7) (g 8) nn (g 5) (nI j) vb vn = (vn, upd (g 7) j vb, upd (g 8) j vn, zVL nn j (fun _ => 0), g 5) from (by unfold zm_sheet; rw [if_pos ⟨c4c, hbt⟩, if_neg (Int32.not_lt.mpr c37), if_neg (Int32.not_lt.mpr c51), zc_nI (show j < 2147483648 by omega)]; first | (rw [if_pos c74]; done) | (rw [if_neg c74]; done))]; exact ⟨zsi (pk_us (f := g 8)), zPS.mk (zK3 g j j vb vn)⟩)
              · have hkn : k < 40 := zkn (v := 40) rfl (by omega) hk c90
                refine lv_aload_n hx hb dX6_sheet_93 rfl (lv_at hl 0 rfl) ?_
                refine gfX6_34 hx hb hown hts hK hw 0 rfl rfl dX6_sheet_94 ?_
                refine lv_bipush (v := 40) hx hb dX6_sheet_97 (by decide) ?_
                refine lv_iload_n hx hb dX6_sheet_99 rfl (lv_at hl 1 rfl) ?_
                refine lv_imul hx hb dX6_sheet_100 ?_
                refine lv_iload hx hb dX6_sheet_101 (lv_at hl 2 rfl) ?_
                refine lv_iadd hx hb dX6_sheet_103 ?_
                refine lv_lconst (v := 0) hx hb dX6_sheet_104 (by decide) ?_
                refine zlas2 (f' := zfl (zUL (zVL nn j (zflL (fun _ => 0) (nn j) k)) j k 0)) hx hb hK hw 9 1 (40 * j + k) rfl rfl (zix j k) (by omega) (by decide) dX6_sheet_105 (zfl_u (zVL nn j (zflL (fun _ => 0) (nn j) k)) _ (by omega)) (fun H locs hw => ?_)
                have hw : zHw x A s.heap (zMW x a q (zU (zU g 7 j vb) 8 j vn) (zNM (zUL (zVL nn j (zflL (fun _ => 0) (nn j) k)) j k 0) mv) (zflat S)) H locs := hw
                have hw : zHw x A s.heap (zMW x a q (zU (zU g 7 j vb) 8 j vn) (zNM (zVL nn j (zflL (fun _ => 0) (nn j) (k + 1))) mv) (zflat S)) H locs := hw.re (by rw [zVL_U]; exact congrArg (fun z => zMW x a q _ (zNM (zVL nn j z) mv) _) (zflL_s (fun _ => 0) (nn j) k))
                refine lv_iinc (v := nI (k + 1)) (lv' := [(4, .int (nI (k + 1))), (0, .ref (a 0)), (1, .int (nI j))]) hx hb dX6_sheet_106 hl (k := 2) rfl (nI_1 k) (by decide) rfl (fun ls hl => ?_)
                refine lv_goto (tgt := 86) hx hb dX6_sheet_109 (by decide) ?_
                exact ih86 (k + 1) (by omega) (by omega) _ _ _ hw (lv_sub hl [1, 2, 0] rfl)
          exact loop86 (_ + 1) 0 (Nat.lt_succ_self _) (Nat.zero_le _) _ _ _ (hw.re (by rw [zflL_0, zVL_self])) (lv_sub hl [1, 2, 0] rfl)
        · refine lv_iconst (v := 0) hx hb dX6_sheet_77 (by decide) ?_
          refine lv_goto (tgt := 82) hx hb dX6_sheet_78 (by decide) ?_
          refine zias hx hb hK hw 8 0 j rfl rfl rfl (by omega) (by decide) dX6_sheet_82 (fun H locs hw => ?_)
          have hw : zHw x A s.heap (zMW x a q (zU (zU g 7 j vb) 8 j 0) (zNM nn mv) (zflat S)) H locs := hw
          refine lv_iconst (v := 0) hx hb dX6_sheet_83 (by decide) ?_
          refine lv_istore (lv' := [(4, .int 0), (0, .ref (a 0)), (1, .int (nI j)), (2, .int vb), (3, .int vn)]) hx hb dX6_sheet_84 hl (by decide) rfl (fun ls hl => ?_)
          have loop86 : ∀ (dd : Nat) (k : Nat), 40 - k < dd → (hk : k ≤ 40) → ∀ (H : Heap) (locs : List Loc) (ls : Array Slot), zHw x A s.heap (zMW x a q (zU (zU g 7 j vb) 8 j 0) (zNM (zVL nn j (zflL (fun _ => 0) (nn j) k)) mv) (zflat S)) H locs → lv_has ls 5 [(0, .ref (a 0)), (1, .int (nI j)), (4, .int (nI k))] → W p x.1 e (zRM 2) s m ar below meth c H locs 0 0 Q (F0 m 86 ls []) := by
            intro dd
            induction dd with
            | zero => intro k hm; exact absurd hm (Nat.not_lt_zero _)
            | succ dd ih86 =>
              intro k hm hk H locs ls hw hl
              refine lv_iload hx hb dX6_sheet_86 (lv_at hl 2 rfl) ?_
              refine lv_bipush (v := 40) hx hb dX6_sheet_88 (by decide) ?_
              refine lv_icmp_ge (tgt := 112) hx hb dX6_sheet_90 (by decide) (fun c90 => ?_) (fun c90 => ?_)
              · have hke : k = 40 := zke (v := 40) rfl (by omega) hk c90
                have hw : zHw x A s.heap (zMW x a q (zU (zU g 7 j vb) 8 j 0) (zNM (zVL nn j (fun _ => 0)) mv) (zflat S)) H locs := hw.re (congrArg (fun z => zMW x a q _ z _) (zNM_fill (nn := nn) (mv := mv) (j := j) hke))
                refine lv_aload_n hx hb dX6_sheet_112 rfl (lv_at hl 0 rfl) ?_
                refine gfX6_31 hx hb hown hts hK hw 0 rfl rfl dX6_sheet_113 ?_
                refine lv_iload_n hx hb dX6_sheet_116 rfl (lv_at hl 1 rfl) ?_
                refine zial hx hb hK hw 8 0 j rfl rfl rfl (by omega) (by decide) dX6_sheet_117 ?_
                exact zFG.iret hx hb hr hlocks hQ hw rfl dX6_sheet_118 (by rw [show zm_sheet (g 7) (g 8) nn (g 5) (nI j) vb vn = (0, upd (g 7) j vb, upd (g 8) j 0, zVL nn j (fun _ => 0), g 5) from (by unfold zm_sheet; rw [if_pos ⟨c4c, hbt⟩, if_neg (Int32.not_lt.mpr c37), if_neg (Int32.not_lt.mpr c51), zc_nI (show j < 2147483648 by omega)]; first | (rw [if_pos c74]; done) | (rw [if_neg c74]; done))]; exact ⟨zsi (pk_us (f := g 8)), zPS.mk (zK3 g j j vb 0)⟩)
              · have hkn : k < 40 := zkn (v := 40) rfl (by omega) hk c90
                refine lv_aload_n hx hb dX6_sheet_93 rfl (lv_at hl 0 rfl) ?_
                refine gfX6_34 hx hb hown hts hK hw 0 rfl rfl dX6_sheet_94 ?_
                refine lv_bipush (v := 40) hx hb dX6_sheet_97 (by decide) ?_
                refine lv_iload_n hx hb dX6_sheet_99 rfl (lv_at hl 1 rfl) ?_
                refine lv_imul hx hb dX6_sheet_100 ?_
                refine lv_iload hx hb dX6_sheet_101 (lv_at hl 2 rfl) ?_
                refine lv_iadd hx hb dX6_sheet_103 ?_
                refine lv_lconst (v := 0) hx hb dX6_sheet_104 (by decide) ?_
                refine zlas2 (f' := zfl (zUL (zVL nn j (zflL (fun _ => 0) (nn j) k)) j k 0)) hx hb hK hw 9 1 (40 * j + k) rfl rfl (zix j k) (by omega) (by decide) dX6_sheet_105 (zfl_u (zVL nn j (zflL (fun _ => 0) (nn j) k)) _ (by omega)) (fun H locs hw => ?_)
                have hw : zHw x A s.heap (zMW x a q (zU (zU g 7 j vb) 8 j 0) (zNM (zUL (zVL nn j (zflL (fun _ => 0) (nn j) k)) j k 0) mv) (zflat S)) H locs := hw
                have hw : zHw x A s.heap (zMW x a q (zU (zU g 7 j vb) 8 j 0) (zNM (zVL nn j (zflL (fun _ => 0) (nn j) (k + 1))) mv) (zflat S)) H locs := hw.re (by rw [zVL_U]; exact congrArg (fun z => zMW x a q _ (zNM (zVL nn j z) mv) _) (zflL_s (fun _ => 0) (nn j) k))
                refine lv_iinc (v := nI (k + 1)) (lv' := [(4, .int (nI (k + 1))), (0, .ref (a 0)), (1, .int (nI j))]) hx hb dX6_sheet_106 hl (k := 2) rfl (nI_1 k) (by decide) rfl (fun ls hl => ?_)
                refine lv_goto (tgt := 86) hx hb dX6_sheet_109 (by decide) ?_
                exact ih86 (k + 1) (by omega) (by omega) _ _ _ hw (lv_sub hl [1, 2, 0] rfl)
          exact loop86 (_ + 1) 0 (Nat.lt_succ_self _) (Nat.zero_le _) _ _ _ (hw.re (by rw [zflL_0, zVL_self])) (lv_sub hl [1, 2, 0] rfl)
      · refine lv_aload_n hx hb dX6_sheet_54 rfl (lv_at hl 0 rfl) ?_
        refine lv_ldc (v := (-1000000001)) hx hb hown (hts _ ckX6_45) dX6_sheet_55 ?_
        refine zcVwi (r := (-1000000001)) hx hb hml hown hts hl.1 hK hE hA lkX6_64 (c_X6_finds x a q g (zNM nn mv) (zflat S) (-1000000001) 0 (by decide) (by decide)) ⟨Nat.le_of_ble_eq_true rfl, Nat.le_of_ble_eq_true rfl⟩ ⟨Nat.zero_le _, Nat.zero_le _⟩ hw 0 4 rfl rfl rfl rfl (Nat.le_of_ble_eq_true rfl) dX6_sheet_57 (fun H locs hw => ?_)
        have hw : zHw x A s.heap (zMW x a q (zU g 5 0 (g 5 0 + 1)) (zNM nn mv) (zflat S)) H locs := hw
        exact zFG.iret hx hb hr hlocks hQ hw rfl dX6_sheet_60 (by rw [show zm_sheet (g 7) (g 8) nn (g 5) y vb vn = ((-1000000001), g 7, g 8, nn, zFd (g 5) 0) from (by unfold zm_sheet; rw [if_pos ⟨c4c, hbt⟩, if_neg (Int32.not_lt.mpr c37), if_pos (Int32.not_le.mp c51)])]; exact ⟨rfl, zPS.mk (zK1 g 0)⟩)
    · refine lv_aload_n hx hb dX6_sheet_40 rfl (lv_at hl 0 rfl) ?_
      refine lv_ldcw (v := (-1000000007)) hx hb hown (hts _ ckX6_296) dX6_sheet_41 ?_
      refine zcVwi (r := (-1000000007)) hx hb hml hown hts hl.1 hK hE hA lkX6_64 (c_X6_finds x a q g (zNM nn mv) (zflat S) (-1000000007) 6 (by decide) (by decide)) ⟨Nat.le_of_ble_eq_true rfl, Nat.le_of_ble_eq_true rfl⟩ ⟨Nat.zero_le _, Nat.zero_le _⟩ hw 0 4 rfl rfl rfl rfl (Nat.le_of_ble_eq_true rfl) dX6_sheet_44 (fun H locs hw => ?_)
      have hw : zHw x A s.heap (zMW x a q (zU g 5 6 (g 5 6 + 1)) (zNM nn mv) (zflat S)) H locs := hw
      exact zFG.iret hx hb hr hlocks hQ hw rfl dX6_sheet_47 (by rw [show zm_sheet (g 7) (g 8) nn (g 5) y vb vn = ((-1000000007), g 7, g 8, nn, zFd (g 5) 6) from (by unfold zm_sheet; rw [if_pos ⟨c4c, hbt⟩, if_pos (Int32.not_le.mp c37)])]; exact ⟨rfl, zPS.mk (zK1 g 6)⟩)
  refine lv_iload_n hx hb dX6_sheet_0 rfl (lv_at hl 1 rfl) ?_
  refine zcSwi (r := zb (0 ≤ y ∧ y < 4)) hx hb hml hown hts hl.1 hK hE hA lkX6_293 (c_X6_isOne x (zMW x a q g (zNM nn mv) (zflat S)) y) ⟨Nat.le_of_ble_eq_true rfl, Nat.le_of_ble_eq_true rfl⟩ ⟨Nat.zero_le _, Nat.zero_le _⟩ hw rfl rfl (Nat.le_of_ble_eq_true rfl) dX6_sheet_1 (fun H locs hw => ?_)
  have hw : zHw x A s.heap (zMW x a q g (zNM nn mv) (zflat S)) H locs := hw
  refine lv_if_eq (tgt := 29) hx hb dX6_sheet_4 (by decide) (fun c4 => ?_) (fun c4 => ?_)
  · have c4 := zb_0.mp c4
    refine lv_aload_n hx hb dX6_sheet_29 rfl (lv_at hl 0 rfl) ?_
    refine lv_ldc (v := (-1000000001)) hx hb hown (hts _ ckX6_45) dX6_sheet_30 ?_
    refine zcVwi (r := (-1000000001)) hx hb hml hown hts hl.1 hK hE hA lkX6_64 (c_X6_finds x a q g (zNM nn mv) (zflat S) (-1000000001) 0 (by decide) (by decide)) ⟨Nat.le_of_ble_eq_true rfl, Nat.le_of_ble_eq_true rfl⟩ ⟨Nat.zero_le _, Nat.zero_le _⟩ hw 0 4 rfl rfl rfl rfl (Nat.le_of_ble_eq_true rfl) dX6_sheet_32 (fun H locs hw => ?_)
    have hw : zHw x A s.heap (zMW x a q (zU g 5 0 (g 5 0 + 1)) (zNM nn mv) (zflat S)) H locs := hw
    exact zFG.iret hx hb hr hlocks hQ hw rfl dX6_sheet_35 (by rw [show zm_sheet (g 7) (g 8) nn (g 5) y vb vn = ((-1000000001), g 7, g 8, nn, zFd (g 5) 0) from (by unfold zm_sheet; first | rw [if_neg (fun h => by rcases h.2 with q | q | q | q; exact c8 q; exact c14 q; exact c20 q; exact c26 q)] | rw [if_neg (fun h => c4 h.1)])]; exact ⟨rfl, zPS.mk (zK1 g 0)⟩)
  · have c4 := zb_n0.mp c4
    refine lv_iload_n hx hb dX6_sheet_7 rfl (lv_at hl 2 rfl) ?_
    refine lv_if_eq (tgt := 36) hx hb dX6_sheet_8 (by decide) (fun c8 => ?_) (fun c8 => ?_)
    · exact K36  c4 (by first | exact Or.inl c8 | exact Or.inr (Or.inl c14) | exact Or.inr (Or.inr (Or.inl c20)) | exact Or.inr (Or.inr (Or.inr c26))) _ _ _ hw (lv_sub hl [0, 1, 2, 3] rfl)
    · refine lv_iload_n hx hb dX6_sheet_11 rfl (lv_at hl 2 rfl) ?_
      refine lv_bipush (v := 8) hx hb dX6_sheet_12 (by decide) ?_
      refine lv_icmp_eq (tgt := 36) hx hb dX6_sheet_14 (by decide) (fun c14 => ?_) (fun c14 => ?_)
      · exact K36  c4 (by first | exact Or.inl c8 | exact Or.inr (Or.inl c14) | exact Or.inr (Or.inr (Or.inl c20)) | exact Or.inr (Or.inr (Or.inr c26))) _ _ _ hw (lv_sub hl [0, 1, 2, 3] rfl)
      · refine lv_iload_n hx hb dX6_sheet_17 rfl (lv_at hl 2 rfl) ?_
        refine lv_bipush (v := 16) hx hb dX6_sheet_18 (by decide) ?_
        refine lv_icmp_eq (tgt := 36) hx hb dX6_sheet_20 (by decide) (fun c20 => ?_) (fun c20 => ?_)
        · exact K36  c4 (by first | exact Or.inl c8 | exact Or.inr (Or.inl c14) | exact Or.inr (Or.inr (Or.inl c20)) | exact Or.inr (Or.inr (Or.inr c26))) _ _ _ hw (lv_sub hl [0, 1, 2, 3] rfl)
        · refine lv_iload_n hx hb dX6_sheet_23 rfl (lv_at hl 2 rfl) ?_
          refine lv_bipush (v := 64) hx hb dX6_sheet_24 (by decide) ?_
          refine lv_icmp_eq (tgt := 36) hx hb dX6_sheet_26 (by decide) (fun c26 => ?_) (fun c26 => ?_)
          · exact K36  c4 (by first | exact Or.inl c8 | exact Or.inr (Or.inl c14) | exact Or.inr (Or.inr (Or.inl c20)) | exact Or.inr (Or.inr (Or.inr c26))) _ _ _ hw (lv_sub hl [0, 1, 2, 3] rfl)
          · refine lv_aload_n hx hb dX6_sheet_29 rfl (lv_at hl 0 rfl) ?_
            refine lv_ldc (v := (-1000000001)) hx hb hown (hts _ ckX6_45) dX6_sheet_30 ?_
            refine zcVwi (r := (-1000000001)) hx hb hml hown hts hl.1 hK hE hA lkX6_64 (c_X6_finds x a q g (zNM nn mv) (zflat S) (-1000000001) 0 (by decide) (by decide)) ⟨Nat.le_of_ble_eq_true rfl, Nat.le_of_ble_eq_true rfl⟩ ⟨Nat.zero_le _, Nat.zero_le _⟩ hw 0 4 rfl rfl rfl rfl (Nat.le_of_ble_eq_true rfl) dX6_sheet_32 (fun H locs hw => ?_)
            have hw : zHw x A s.heap (zMW x a q (zU g 5 0 (g 5 0 + 1)) (zNM nn mv) (zflat S)) H locs := hw
            exact zFG.iret hx hb hr hlocks hQ hw rfl dX6_sheet_35 (by rw [show zm_sheet (g 7) (g 8) nn (g 5) y vb vn = ((-1000000001), g 7, g 8, nn, zFd (g 5) 0) from (by unfold zm_sheet; first | rw [if_neg (fun h => by rcases h.2 with q | q | q | q; exact c8 q; exact c14 q; exact c20 q; exact c26 q)] | rw [if_neg (fun h => c4 h.1)])]; exact ⟨rfl, zPS.mk (zK1 g 0)⟩)

set_option maxHeartbeats 4000000 in
set_option maxRecDepth 100000 in
theorem c_X6_write (x : zX) (a : Nat → Nat) (q : Nat → Int32) (g : zT) (nn : zNN) (mv : Nat → Int64) (S : zT) (y vi : Int32) (v : Int64) (hS : zSI (g 7) (g 8)) : zFG x mX6_write 3 [.ref (a 0), .int y, .int vi, .long v] (zMW x a q g (zNM nn mv) (zflat S)) (fun v' u' => v' = some (.long (zm_write (g 7) (g 8) nn (g 5) y vi v).1) ∧ zPS x a q g S ((zm_write (g 7) (g 8) nn (g 5) y vi v).2.1) (g 7) (g 8) ((zm_write (g 7) (g 8) nn (g 5) y vi v).2.2) u') := by
  refine zFG.start RX6 cX6_write 8 (some .long) rfl rfl (by decide +kernel) (Nat.le_of_ble_eq_true rfl) ?_
  intro p e s m ar below meth c ls A Q hx hb hr hml hown hts hlocks hK hE hA hQ hl hw
  have hl : lv_has ls 8 [(0, .ref (a 0)), (1, .int y), (2, .int vi), (3, .long v)] := hl
  have hw : zHw x A s.heap (zMW x a q g (zNM nn mv) (zflat S)) s.heap [] := hw
  rcases zcaseS y (g 7) with hno | ⟨j, hj, rfl, hz⟩ | ⟨j, hj, rfl, hz⟩
  · refine lv_aload_n hx hb dX6_write_0 rfl (lv_at hl 0 rfl) ?_
    refine lv_iload_n hx hb dX6_write_1 rfl (lv_at hl 1 rfl) ?_
    refine zcVwi (r := (-1000000001)) hx hb hml hown hts hl.1 hK hE hA lkX6_298 (c_X6_wrongSheet_no x a q g nn mv S y hno) ⟨Nat.le_of_ble_eq_true rfl, Nat.le_of_ble_eq_true rfl⟩ ⟨Nat.zero_le _, Nat.zero_le _⟩ hw 0 4 rfl rfl rfl rfl (Nat.le_of_ble_eq_true rfl) dX6_write_2 (fun H locs hw => ?_)
    have hw : zHw x A s.heap (zMW x a q g (zNM nn mv) (zflat S)) H locs := hw
    refine lv_istore (lv' := [(5, .int (-1000000001)), (0, .ref (a 0)), (1, .int y), (2, .int vi), (3, .long v)]) hx hb dX6_write_5 hl (by decide) rfl (fun ls hl => ?_)
    refine lv_iload hx hb dX6_write_7 (lv_at hl 0 rfl) ?_
    refine lv_if_eq (tgt := 20) hx hb dX6_write_9 (by decide) (fun c9 => absurd c9 (by decide)) (fun c9 => ?_)
    refine lv_aload_n hx hb dX6_write_12 rfl (lv_at hl 1 rfl) ?_
    refine lv_iload hx hb dX6_write_13 (lv_at hl 0 rfl) ?_
    refine zcVwi (r := (-1000000001)) hx hb hml hown hts hl.1 hK hE hA lkX6_64 (c_X6_finds x a q g (zNM nn mv) (zflat S) (-1000000001) 0 (by decide) (by decide)) ⟨Nat.le_of_ble_eq_true rfl, Nat.le_of_ble_eq_true rfl⟩ ⟨Nat.zero_le _, Nat.zero_le _⟩ hw 0 4 rfl rfl rfl rfl (Nat.le_of_ble_eq_true rfl) dX6_write_15 (fun H locs hw => ?_)
    have hw : zHw x A s.heap (zMW x a q (zU g 5 0 (g 5 0 + 1)) (zNM nn mv) (zflat S)) H locs := hw
    refine lv_i2l hx hb dX6_write_18 rfl ?_
    exact zFG.lret hx hb hr hlocks hQ hw rfl dX6_write_19 (by rw [show zm_write (g 7) (g 8) nn (g 5) y vi v = ((-1000000001 : Int32).toInt64, nn, zFd (g 5) 0) from (by unfold zm_write; rw [if_neg hno]; rfl)]; exact ⟨rfl, zPS.mk (zK1 g 0)⟩)
  · refine lv_aload_n hx hb dX6_write_0 rfl (lv_at hl 0 rfl) ?_
    refine lv_iload_n hx hb dX6_write_1 rfl (lv_at hl 1 rfl) ?_
    refine zcVwi (r := (-1000000006)) hx hb hml hown hts hl.1 hK hE hA lkX6_298 (c_X6_wrongSheet_0 x a q g nn mv S j hj hz) ⟨Nat.le_of_ble_eq_true rfl, Nat.le_of_ble_eq_true rfl⟩ ⟨Nat.zero_le _, Nat.zero_le _⟩ hw 0 4 rfl rfl rfl rfl (Nat.le_of_ble_eq_true rfl) dX6_write_2 (fun H locs hw => ?_)
    have hw : zHw x A s.heap (zMW x a q g (zNM nn mv) (zflat S)) H locs := hw
    refine lv_istore (lv' := [(5, .int (-1000000006)), (0, .ref (a 0)), (1, .int (nI j)), (2, .int vi), (3, .long v)]) hx hb dX6_write_5 hl (by decide) rfl (fun ls hl => ?_)
    refine lv_iload hx hb dX6_write_7 (lv_at hl 0 rfl) ?_
    refine lv_if_eq (tgt := 20) hx hb dX6_write_9 (by decide) (fun c9 => absurd c9 (by decide)) (fun c9 => ?_)
    refine lv_aload_n hx hb dX6_write_12 rfl (lv_at hl 1 rfl) ?_
    refine lv_iload hx hb dX6_write_13 (lv_at hl 0 rfl) ?_
    refine zcVwi (r := (-1000000006)) hx hb hml hown hts hl.1 hK hE hA lkX6_64 (c_X6_finds x a q g (zNM nn mv) (zflat S) (-1000000006) 5 (by decide) (by decide)) ⟨Nat.le_of_ble_eq_true rfl, Nat.le_of_ble_eq_true rfl⟩ ⟨Nat.zero_le _, Nat.zero_le _⟩ hw 0 4 rfl rfl rfl rfl (Nat.le_of_ble_eq_true rfl) dX6_write_15 (fun H locs hw => ?_)
    have hw : zHw x A s.heap (zMW x a q (zU g 5 5 (g 5 5 + 1)) (zNM nn mv) (zflat S)) H locs := hw
    refine lv_i2l hx hb dX6_write_18 rfl ?_
    exact zFG.lret hx hb hr hlocks hQ hw rfl dX6_write_19 (by rw [show zm_write (g 7) (g 8) nn (g 5) (nI j) vi v = ((-1000000006 : Int32).toInt64, nn, zFd (g 5) 5) from (by unfold zm_write; rw [if_pos (z4_of hj), zc_nI (show j < 2147483648 by omega), if_pos hz]; rfl)]; exact ⟨rfl, zPS.mk (zK1 g 5)⟩)
  · refine lv_aload_n hx hb dX6_write_0 rfl (lv_at hl 0 rfl) ?_
    refine lv_iload_n hx hb dX6_write_1 rfl (lv_at hl 1 rfl) ?_
    refine zcVwi (r := 0) hx hb hml hown hts hl.1 hK hE hA lkX6_298 (c_X6_wrongSheet_1 x a q g nn mv S j hj hz) ⟨Nat.le_of_ble_eq_true rfl, Nat.le_of_ble_eq_true rfl⟩ ⟨Nat.zero_le _, Nat.zero_le _⟩ hw 0 4 rfl rfl rfl rfl (Nat.le_of_ble_eq_true rfl) dX6_write_2 (fun H locs hw => ?_)
    have hw : zHw x A s.heap (zMW x a q g (zNM nn mv) (zflat S)) H locs := hw
    refine lv_istore (lv' := [(5, .int 0), (0, .ref (a 0)), (1, .int (nI j)), (2, .int vi), (3, .long v)]) hx hb dX6_write_5 hl (by decide) rfl (fun ls hl => ?_)
    refine lv_iload hx hb dX6_write_7 (lv_at hl 0 rfl) ?_
    refine lv_if_eq (tgt := 20) hx hb dX6_write_9 (by decide) (fun c9 => ?_) (fun c9 => absurd (by decide) c9)
    obtain ⟨-, n4, hn4, hs4⟩ := hS j hj
    refine lv_iload_n hx hb dX6_write_20 rfl (lv_at hl 3 rfl) ?_
    refine lv_i2l hx hb dX6_write_21 rfl ?_
    refine lv_lconst (v := 0) hx hb dX6_write_22 (by decide) ?_
    refine lv_aload_n hx hb dX6_write_23 rfl (lv_at hl 1 rfl) ?_
    refine gfX6_31 hx hb hown hts hK hw 0 rfl rfl dX6_write_24 ?_
    refine lv_iload_n hx hb dX6_write_27 rfl (lv_at hl 2 rfl) ?_
    refine zial hx hb hK hw 8 0 j rfl rfl rfl (by omega) (by decide) dX6_write_28 ?_
    refine lv_iconst (v := 1) hx hb dX6_write_29 (by decide) ?_
    refine lv_isub hx hb dX6_write_30 ?_
    refine lv_i2l hx hb dX6_write_31 rfl ?_
    refine zcSwi (r := zb (0 ≤ vi ∧ vi ≤ (((g 8) j) - 1))) hx hb hml hown hts hl.1 hK hE hA lkX6_48 (c_X6_inI x (zMW x a q g (zNM nn mv) (zflat S)) vi 0 (((g 8) j) - 1)) ⟨Nat.le_of_ble_eq_true rfl, Nat.le_of_ble_eq_true rfl⟩ ⟨Nat.zero_le _, Nat.zero_le _⟩ hw rfl rfl (Nat.le_of_ble_eq_true rfl) dX6_write_32 (fun H locs hw => ?_)
    have hw : zHw x A s.heap (zMW x a q g (zNM nn mv) (zflat S)) H locs := hw
    refine lv_if_ne (tgt := 46) hx hb dX6_write_35 (by decide) (fun c35 => ?_) (fun c35 => ?_)
    · have c35 := zb_n0.mp c35
      obtain ⟨-, k, hk, hkn, rfl⟩ := zidx hn4 hs4 c35
      refine lv_aload_n hx hb dX6_write_46 rfl (lv_at hl 1 rfl) ?_
      refine gfX6_34 hx hb hown hts hK hw 0 rfl rfl dX6_write_47 ?_
      refine lv_bipush (v := 40) hx hb dX6_write_50 (by decide) ?_
      refine lv_iload_n hx hb dX6_write_52 rfl (lv_at hl 2 rfl) ?_
      refine lv_imul hx hb dX6_write_53 ?_
      refine lv_iload_n hx hb dX6_write_54 rfl (lv_at hl 3 rfl) ?_
      refine lv_iadd hx hb dX6_write_55 ?_
      refine zlal2 (v := nn j k) hx hb hK hw 9 1 (40 * j + k) rfl rfl (zix j k) (by omega) (by decide) dX6_write_56 (zfl_at nn (by omega)) ?_
      refine lv_lstore (lv' := [(6, .long (nn j k)), (5, .int 0), (0, .ref (a 0)), (1, .int (nI j)), (2, .int (nI k)), (3, .long v)]) hx hb dX6_write_57 hl (by decide) rfl (fun ls hl => ?_)
      refine lv_aload_n hx hb dX6_write_59 rfl (lv_at hl 2 rfl) ?_
      refine gfX6_34 hx hb hown hts hK hw 0 rfl rfl dX6_write_60 ?_
      refine lv_bipush (v := 40) hx hb dX6_write_63 (by decide) ?_
      refine lv_iload_n hx hb dX6_write_65 rfl (lv_at hl 3 rfl) ?_
      refine lv_imul hx hb dX6_write_66 ?_
      refine lv_iload_n hx hb dX6_write_67 rfl (lv_at hl 4 rfl) ?_
      refine lv_iadd hx hb dX6_write_68 ?_
      refine lv_aload_n hx hb dX6_write_69 rfl (lv_at hl 2 rfl) ?_
      refine gfX6_28 hx hb hown hts hK hw 0 rfl rfl dX6_write_70 ?_
      refine lv_iload_n hx hb dX6_write_73 rfl (lv_at hl 3 rfl) ?_
      refine zial hx hb hK hw 7 0 j rfl rfl rfl (by omega) (by decide) dX6_write_74 ?_
      refine lv_lload_n hx hb dX6_write_75 rfl (lv_at hl 5 rfl) ?_
      refine zcSwl (r := zna ((g 7) j) v) hx hb hml hown hts hl.1 hK hE hA lkX6_301 (c_X6_narrowed x (zMW x a q g (zNM nn mv) (zflat S)) ((g 7) j) v) ⟨Nat.le_of_ble_eq_true rfl, Nat.le_of_ble_eq_true rfl⟩ ⟨Nat.zero_le _, Nat.zero_le _⟩ hw rfl rfl (Nat.le_of_ble_eq_true rfl) dX6_write_76 (fun H locs hw => ?_)
      have hw : zHw x A s.heap (zMW x a q g (zNM nn mv) (zflat S)) H locs := hw
      refine zlas2 (f' := zfl (zUL nn j k (zna ((g 7) j) v))) hx hb hK hw 9 1 (40 * j + k) rfl rfl (zix j k) (by omega) (by decide) dX6_write_79 (zfl_u nn _ (by omega)) (fun H locs hw => ?_)
      have hw : zHw x A s.heap (zMW x a q g (zNM (zUL nn j k (zna ((g 7) j) v)) mv) (zflat S)) H locs := hw
      refine lv_lload hx hb dX6_write_80 (lv_at hl 0 rfl) ?_
      exact zFG.lret hx hb hr hlocks hQ hw rfl dX6_write_82 (by rw [show zm_write (g 7) (g 8) nn (g 5) (nI j) (nI k) v = (nn j k, (zUL nn j k (zna ((g 7) j) v)), g 5) from (by unfold zm_write; rw [if_pos (z4_of hj), zc_nI (show j < 2147483648 by omega), if_neg hz, if_pos c35, zc_nI (show k < 2147483648 by omega)])]; exact ⟨rfl, zPS.mk (zK0 g)⟩)
    · have c35 := zb_0.mp c35
      refine lv_aload_n hx hb dX6_write_38 rfl (lv_at hl 1 rfl) ?_
      refine lv_ldc (v := (-1000000001)) hx hb hown (hts _ ckX6_45) dX6_write_39 ?_
      refine zcVwi (r := (-1000000001)) hx hb hml hown hts hl.1 hK hE hA lkX6_64 (c_X6_finds x a q g (zNM nn mv) (zflat S) (-1000000001) 0 (by decide) (by decide)) ⟨Nat.le_of_ble_eq_true rfl, Nat.le_of_ble_eq_true rfl⟩ ⟨Nat.zero_le _, Nat.zero_le _⟩ hw 0 4 rfl rfl rfl rfl (Nat.le_of_ble_eq_true rfl) dX6_write_41 (fun H locs hw => ?_)
      have hw : zHw x A s.heap (zMW x a q (zU g 5 0 (g 5 0 + 1)) (zNM nn mv) (zflat S)) H locs := hw
      refine lv_i2l hx hb dX6_write_44 rfl ?_
      exact zFG.lret hx hb hr hlocks hQ hw rfl dX6_write_45 (by rw [show zm_write (g 7) (g 8) nn (g 5) (nI j) vi v = ((-1000000001 : Int32).toInt64, nn, zFd (g 5) 0) from (by unfold zm_write; rw [if_pos (z4_of hj), zc_nI (show j < 2147483648 by omega), if_neg hz, if_neg c35]; rfl)]; exact ⟨rfl, zPS.mk (zK1 g 0)⟩)

set_option maxHeartbeats 4000000 in
set_option maxRecDepth 100000 in
theorem c_X6_copy (x : zX) (a : Nat → Nat) (q : Nat → Int32) (g : zT) (nn : zNN) (mv : Nat → Int64) (S : zT) (y fr z to vn : Int32) (hS : zSI (g 7) (g 8)) : zFG x mX6_copy 2 [.ref (a 0), .int y, .int fr, .int z, .int to, .int vn] (zMW x a q g (zNM nn mv) (zflat S)) (fun v' u' => v' = some (.int (zm_copy (g 7) (g 8) nn (g 5) y fr z to vn).1) ∧ zPS x a q g S ((zm_copy (g 7) (g 8) nn (g 5) y fr z to vn).2.1) (g 7) (g 8) ((zm_copy (g 7) (g 8) nn (g 5) y fr z to vn).2.2) u') := by
  refine zFG.start RX6 cX6_copy 7 (some .int) rfl rfl (by decide +kernel) (Nat.le_of_ble_eq_true rfl) ?_
  intro p e s m ar below meth c ls A Q hx hb hr hml hown hts hlocks hK hE hA hQ hl hw
  have hl : lv_has ls 7 [(0, .ref (a 0)), (1, .int y), (2, .int fr), (3, .int z), (4, .int to), (5, .int vn)] := hl
  have hw : zHw x A s.heap (zMW x a q g (zNM nn mv) (zflat S)) s.heap [] := hw
  refine lv_iload_n hx hb dX6_copy_0 rfl (lv_at hl 1 rfl) ?_
  refine zcSwi (r := zb (0 ≤ y ∧ y < 4)) hx hb hml hown hts hl.1 hK hE hA lkX6_293 (c_X6_isOne x (zMW x a q g (zNM nn mv) (zflat S)) y) ⟨Nat.le_of_ble_eq_true rfl, Nat.le_of_ble_eq_true rfl⟩ ⟨Nat.zero_le _, Nat.zero_le _⟩ hw rfl rfl (Nat.le_of_ble_eq_true rfl) dX6_copy_1 (fun H locs hw => ?_)
  have hw : zHw x A s.heap (zMW x a q g (zNM nn mv) (zflat S)) H locs := hw
  refine lv_if_eq (tgt := 14) hx hb dX6_copy_4 (by decide) (fun c4 => ?_) (fun c4 => ?_)
  · have c4 := zb_0.mp c4
    refine lv_aload_n hx hb dX6_copy_14 rfl (lv_at hl 0 rfl) ?_
    refine lv_ldc (v := (-1000000001)) hx hb hown (hts _ ckX6_45) dX6_copy_15 ?_
    refine zcVwi (r := (-1000000001)) hx hb hml hown hts hl.1 hK hE hA lkX6_64 (c_X6_finds x a q g (zNM nn mv) (zflat S) (-1000000001) 0 (by decide) (by decide)) ⟨Nat.le_of_ble_eq_true rfl, Nat.le_of_ble_eq_true rfl⟩ ⟨Nat.zero_le _, Nat.zero_le _⟩ hw 0 4 rfl rfl rfl rfl (Nat.le_of_ble_eq_true rfl) dX6_copy_17 (fun H locs hw => ?_)
    have hw : zHw x A s.heap (zMW x a q (zU g 5 0 (g 5 0 + 1)) (zNM nn mv) (zflat S)) H locs := hw
    exact zFG.iret hx hb hr hlocks hQ hw rfl dX6_copy_20 (by rw [show zm_copy (g 7) (g 8) nn (g 5) y fr z to vn = ((-1000000001), nn, zFd (g 5) 0) from (by unfold zm_copy; first | rw [if_neg (fun h => c11 h.2)] | rw [if_neg (fun h => c4 h.1)])]; exact ⟨rfl, zPS.mk (zK1 g 0)⟩)
  · have c4 := zb_n0.mp c4
    refine lv_iload_n hx hb dX6_copy_7 rfl (lv_at hl 3 rfl) ?_
    refine zcSwi (r := zb (0 ≤ z ∧ z < 4)) hx hb hml hown hts hl.1 hK hE hA lkX6_293 (c_X6_isOne x (zMW x a q g (zNM nn mv) (zflat S)) z) ⟨Nat.le_of_ble_eq_true rfl, Nat.le_of_ble_eq_true rfl⟩ ⟨Nat.zero_le _, Nat.zero_le _⟩ hw rfl rfl (Nat.le_of_ble_eq_true rfl) dX6_copy_8 (fun H locs hw => ?_)
    have hw : zHw x A s.heap (zMW x a q g (zNM nn mv) (zflat S)) H locs := hw
    refine lv_if_ne (tgt := 21) hx hb dX6_copy_11 (by decide) (fun c11 => ?_) (fun c11 => ?_)
    · have c11 := zb_n0.mp c11
      obtain ⟨i, hi, rfl⟩ := z4_nat c4
      obtain ⟨j, hj, rfl⟩ := z4_nat c11
      obtain ⟨-, n1, hn1, hs1⟩ := hS i hi
      obtain ⟨-, n2, hn2, hs2⟩ := hS j hj
      refine lv_aload_n hx hb dX6_copy_21 rfl (lv_at hl 0 rfl) ?_
      refine gfX6_28 hx hb hown hts hK hw 0 rfl rfl dX6_copy_22 ?_
      refine lv_iload_n hx hb dX6_copy_25 rfl (lv_at hl 1 rfl) ?_
      refine zial hx hb hK hw 7 0 i rfl rfl rfl (by omega) (by decide) dX6_copy_26 ?_
      refine lv_if_eq (tgt := 39) hx hb dX6_copy_27 (by decide) (fun c27 => ?_) (fun c27 => ?_)
      · refine lv_aload_n hx hb dX6_copy_39 rfl (lv_at hl 0 rfl) ?_
        refine lv_ldcw (v := (-1000000006)) hx hb hown (hts _ ckX6_297) dX6_copy_40 ?_
        refine zcVwi (r := (-1000000006)) hx hb hml hown hts hl.1 hK hE hA lkX6_64 (c_X6_finds x a q g (zNM nn mv) (zflat S) (-1000000006) 5 (by decide) (by decide)) ⟨Nat.le_of_ble_eq_true rfl, Nat.le_of_ble_eq_true rfl⟩ ⟨Nat.zero_le _, Nat.zero_le _⟩ hw 0 4 rfl rfl rfl rfl (Nat.le_of_ble_eq_true rfl) dX6_copy_43 (fun H locs hw => ?_)
        have hw : zHw x A s.heap (zMW x a q (zU g 5 5 (g 5 5 + 1)) (zNM nn mv) (zflat S)) H locs := hw
        exact zFG.iret hx hb hr hlocks hQ hw rfl dX6_copy_46 (by rw [show zm_copy (g 7) (g 8) nn (g 5) (nI i) fr (nI j) to vn = ((-1000000006), nn, zFd (g 5) 5) from (by unfold zm_copy; rw [if_pos ⟨c4, c11⟩, zc_nI (show i < 2147483648 by omega), zc_nI (show j < 2147483648 by omega), if_pos (by first | exact Or.inr c36 | exact Or.inl c27)])]; exact ⟨rfl, zPS.mk (zK1 g 5)⟩)
      · refine lv_aload_n hx hb dX6_copy_30 rfl (lv_at hl 0 rfl) ?_
        refine gfX6_28 hx hb hown hts hK hw 0 rfl rfl dX6_copy_31 ?_
        refine lv_iload_n hx hb dX6_copy_34 rfl (lv_at hl 3 rfl) ?_
        refine zial hx hb hK hw 7 0 j rfl rfl rfl (by omega) (by decide) dX6_copy_35 ?_
        refine lv_if_ne (tgt := 47) hx hb dX6_copy_36 (by decide) (fun c36 => ?_) (fun c36 => ?_)
        · refine lv_aload_n hx hb dX6_copy_47 rfl (lv_at hl 0 rfl) ?_
          refine gfX6_28 hx hb hown hts hK hw 0 rfl rfl dX6_copy_48 ?_
          refine lv_iload_n hx hb dX6_copy_51 rfl (lv_at hl 1 rfl) ?_
          refine zial hx hb hK hw 7 0 i rfl rfl rfl (by omega) (by decide) dX6_copy_52 ?_
          refine lv_aload_n hx hb dX6_copy_53 rfl (lv_at hl 0 rfl) ?_
          refine gfX6_28 hx hb hown hts hK hw 0 rfl rfl dX6_copy_54 ?_
          refine lv_iload_n hx hb dX6_copy_57 rfl (lv_at hl 3 rfl) ?_
          refine zial hx hb hK hw 7 0 j rfl rfl rfl (by omega) (by decide) dX6_copy_58 ?_
          refine lv_icmp_eq (tgt := 69) hx hb dX6_copy_59 (by decide) (fun c59 => ?_) (fun c59 => ?_)
          · refine lv_iload_n hx hb dX6_copy_69 rfl (lv_at hl 2 rfl) ?_
            refine lv_if_lt (tgt := 110) hx hb dX6_copy_70 (by decide) (fun c70 => ?_) (fun c70 => ?_)
            · refine lv_aload_n hx hb dX6_copy_110 rfl (lv_at hl 0 rfl) ?_
              refine lv_ldc (v := (-1000000001)) hx hb hown (hts _ ckX6_45) dX6_copy_111 ?_
              refine zcVwi (r := (-1000000001)) hx hb hml hown hts hl.1 hK hE hA lkX6_64 (c_X6_finds x a q g (zNM nn mv) (zflat S) (-1000000001) 0 (by decide) (by decide)) ⟨Nat.le_of_ble_eq_true rfl, Nat.le_of_ble_eq_true rfl⟩ ⟨Nat.zero_le _, Nat.zero_le _⟩ hw 0 4 rfl rfl rfl rfl (Nat.le_of_ble_eq_true rfl) dX6_copy_113 (fun H locs hw => ?_)
              have hw : zHw x A s.heap (zMW x a q (zU g 5 0 (g 5 0 + 1)) (zNM nn mv) (zflat S)) H locs := hw
              exact zFG.iret hx hb hr hlocks hQ hw rfl dX6_copy_116 (by rw [show zm_copy (g 7) (g 8) nn (g 5) (nI i) fr (nI j) to vn = ((-1000000001), nn, zFd (g 5) 0) from (by unfold zm_copy; rw [if_pos ⟨c4, c11⟩, zc_nI (show i < 2147483648 by omega), zc_nI (show j < 2147483648 by omega), if_neg (fun h => h.elim c27 c36), if_pos c59, if_neg (fun h => by first | exact absurd h.2.2.2.2 c107 | exact absurd h.2.2.2.1 (Int32.not_le.mpr c93) | exact absurd h.2.2.1 (Int32.not_le.mpr c80) | exact absurd h.2.1 (Int32.not_le.mpr c75) | exact absurd h.1 (Int32.not_le.mpr c70))])]; exact ⟨rfl, zPS.mk (zK1 g 0)⟩)
            · refine lv_iload hx hb dX6_copy_73 (lv_at hl 4 rfl) ?_
              refine lv_if_lt (tgt := 110) hx hb dX6_copy_75 (by decide) (fun c75 => ?_) (fun c75 => ?_)
              · refine lv_aload_n hx hb dX6_copy_110 rfl (lv_at hl 0 rfl) ?_
                refine lv_ldc (v := (-1000000001)) hx hb hown (hts _ ckX6_45) dX6_copy_111 ?_
                refine zcVwi (r := (-1000000001)) hx hb hml hown hts hl.1 hK hE hA lkX6_64 (c_X6_finds x a q g (zNM nn mv) (zflat S) (-1000000001) 0 (by decide) (by decide)) ⟨Nat.le_of_ble_eq_true rfl, Nat.le_of_ble_eq_true rfl⟩ ⟨Nat.zero_le _, Nat.zero_le _⟩ hw 0 4 rfl rfl rfl rfl (Nat.le_of_ble_eq_true rfl) dX6_copy_113 (fun H locs hw => ?_)
                have hw : zHw x A s.heap (zMW x a q (zU g 5 0 (g 5 0 + 1)) (zNM nn mv) (zflat S)) H locs := hw
                exact zFG.iret hx hb hr hlocks hQ hw rfl dX6_copy_116 (by rw [show zm_copy (g 7) (g 8) nn (g 5) (nI i) fr (nI j) to vn = ((-1000000001), nn, zFd (g 5) 0) from (by unfold zm_copy; rw [if_pos ⟨c4, c11⟩, zc_nI (show i < 2147483648 by omega), zc_nI (show j < 2147483648 by omega), if_neg (fun h => h.elim c27 c36), if_pos c59, if_neg (fun h => by first | exact absurd h.2.2.2.2 c107 | exact absurd h.2.2.2.1 (Int32.not_le.mpr c93) | exact absurd h.2.2.1 (Int32.not_le.mpr c80) | exact absurd h.2.1 (Int32.not_le.mpr c75) | exact absurd h.1 (Int32.not_le.mpr c70))])]; exact ⟨rfl, zPS.mk (zK1 g 0)⟩)
              · refine lv_iload hx hb dX6_copy_78 (lv_at hl 5 rfl) ?_
                refine lv_if_lt (tgt := 110) hx hb dX6_copy_80 (by decide) (fun c80 => ?_) (fun c80 => ?_)
                · refine lv_aload_n hx hb dX6_copy_110 rfl (lv_at hl 0 rfl) ?_
                  refine lv_ldc (v := (-1000000001)) hx hb hown (hts _ ckX6_45) dX6_copy_111 ?_
                  refine zcVwi (r := (-1000000001)) hx hb hml hown hts hl.1 hK hE hA lkX6_64 (c_X6_finds x a q g (zNM nn mv) (zflat S) (-1000000001) 0 (by decide) (by decide)) ⟨Nat.le_of_ble_eq_true rfl, Nat.le_of_ble_eq_true rfl⟩ ⟨Nat.zero_le _, Nat.zero_le _⟩ hw 0 4 rfl rfl rfl rfl (Nat.le_of_ble_eq_true rfl) dX6_copy_113 (fun H locs hw => ?_)
                  have hw : zHw x A s.heap (zMW x a q (zU g 5 0 (g 5 0 + 1)) (zNM nn mv) (zflat S)) H locs := hw
                  exact zFG.iret hx hb hr hlocks hQ hw rfl dX6_copy_116 (by rw [show zm_copy (g 7) (g 8) nn (g 5) (nI i) fr (nI j) to vn = ((-1000000001), nn, zFd (g 5) 0) from (by unfold zm_copy; rw [if_pos ⟨c4, c11⟩, zc_nI (show i < 2147483648 by omega), zc_nI (show j < 2147483648 by omega), if_neg (fun h => h.elim c27 c36), if_pos c59, if_neg (fun h => by first | exact absurd h.2.2.2.2 c107 | exact absurd h.2.2.2.1 (Int32.not_le.mpr c93) | exact absurd h.2.2.1 (Int32.not_le.mpr c80) | exact absurd h.2.1 (Int32.not_le.mpr c75) | exact absurd h.1 (Int32.not_le.mpr c70))])]; exact ⟨rfl, zPS.mk (zK1 g 0)⟩)
                · refine lv_iload hx hb dX6_copy_83 (lv_at hl 5 rfl) ?_
                  refine lv_aload_n hx hb dX6_copy_85 rfl (lv_at hl 0 rfl) ?_
                  refine gfX6_31 hx hb hown hts hK hw 0 rfl rfl dX6_copy_86 ?_
                  refine lv_iload_n hx hb dX6_copy_89 rfl (lv_at hl 1 rfl) ?_
                  refine zial hx hb hK hw 8 0 i rfl rfl rfl (by omega) (by decide) dX6_copy_90 ?_
                  refine lv_iload_n hx hb dX6_copy_91 rfl (lv_at hl 2 rfl) ?_
                  refine lv_isub hx hb dX6_copy_92 ?_
                  refine lv_icmp_gt (tgt := 110) hx hb dX6_copy_93 (by decide) (fun c93 => ?_) (fun c93 => ?_)
                  · refine lv_aload_n hx hb dX6_copy_110 rfl (lv_at hl 0 rfl) ?_
                    refine lv_ldc (v := (-1000000001)) hx hb hown (hts _ ckX6_45) dX6_copy_111 ?_
                    refine zcVwi (r := (-1000000001)) hx hb hml hown hts hl.1 hK hE hA lkX6_64 (c_X6_finds x a q g (zNM nn mv) (zflat S) (-1000000001) 0 (by decide) (by decide)) ⟨Nat.le_of_ble_eq_true rfl, Nat.le_of_ble_eq_true rfl⟩ ⟨Nat.zero_le _, Nat.zero_le _⟩ hw 0 4 rfl rfl rfl rfl (Nat.le_of_ble_eq_true rfl) dX6_copy_113 (fun H locs hw => ?_)
                    have hw : zHw x A s.heap (zMW x a q (zU g 5 0 (g 5 0 + 1)) (zNM nn mv) (zflat S)) H locs := hw
                    exact zFG.iret hx hb hr hlocks hQ hw rfl dX6_copy_116 (by rw [show zm_copy (g 7) (g 8) nn (g 5) (nI i) fr (nI j) to vn = ((-1000000001), nn, zFd (g 5) 0) from (by unfold zm_copy; rw [if_pos ⟨c4, c11⟩, zc_nI (show i < 2147483648 by omega), zc_nI (show j < 2147483648 by omega), if_neg (fun h => h.elim c27 c36), if_pos c59, if_neg (fun h => by first | exact absurd h.2.2.2.2 c107 | exact absurd h.2.2.2.1 (Int32.not_le.mpr c93) | exact absurd h.2.2.1 (Int32.not_le.mpr c80) | exact absurd h.2.1 (Int32.not_le.mpr c75) | exact absurd h.1 (Int32.not_le.mpr c70))])]; exact ⟨rfl, zPS.mk (zK1 g 0)⟩)
                  · refine lv_iload hx hb dX6_copy_96 (lv_at hl 5 rfl) ?_
                    refine lv_aload_n hx hb dX6_copy_98 rfl (lv_at hl 0 rfl) ?_
                    refine gfX6_31 hx hb hown hts hK hw 0 rfl rfl dX6_copy_99 ?_
                    refine lv_iload_n hx hb dX6_copy_102 rfl (lv_at hl 3 rfl) ?_
                    refine zial hx hb hK hw 8 0 j rfl rfl rfl (by omega) (by decide) dX6_copy_103 ?_
                    refine lv_iload hx hb dX6_copy_104 (lv_at hl 4 rfl) ?_
                    refine lv_isub hx hb dX6_copy_106 ?_
                    refine lv_icmp_le (tgt := 117) hx hb dX6_copy_107 (by decide) (fun c107 => ?_) (fun c107 => ?_)
                    · have hspan := (⟨Int32.not_lt.mp c70, Int32.not_lt.mp c75, Int32.not_lt.mp c80, Int32.not_lt.mp c93, c107⟩ : 0 ≤ fr ∧ 0 ≤ to ∧ 0 ≤ vn ∧ vn ≤ g 8 i - fr ∧ vn ≤ g 8 j - to)
                      obtain ⟨fa, ka, rfl, rfl, hb1⟩ := zspan_nat hn1 hs1 ((zspan hn1 hs1).mpr ⟨hspan.1, hspan.2.2.1, hspan.2.2.2.1⟩)
                      obtain ⟨ta, kb, rfl, ek, hb2⟩ := zspan_nat hn2 hs2 ((zspan hn2 hs2).mpr ⟨hspan.2.1, hspan.2.2.1, hspan.2.2.2.2⟩)
                      have ek : ka = kb := (nI_eq (by omega) (by omega)).mp ek
                      subst ek
                      refine lv_iconst (v := 0) hx hb dX6_copy_117 (by decide) ?_
                      refine lv_istore (lv' := [(6, .int 0), (0, .ref (a 0)), (1, .int (nI i)), (2, .int (nI fa)), (3, .int (nI j)), (4, .int (nI ta)), (5, .int (nI ka))]) hx hb dX6_copy_118 hl (by decide) rfl (fun ls hl => ?_)
                      have loop120 : ∀ (dd : Nat) (k : Nat), ka - k < dd → (hk : k ≤ ka) → ∀ (H : Heap) (locs : List Loc) (ls : Array Slot), zHw x A s.heap (zMW x a q g (zNM nn (zflL (fun l => nn i (fa + l)) mv k)) (zflat S)) H locs → lv_has ls 7 [(0, .ref (a 0)), (1, .int (nI i)), (2, .int (nI fa)), (3, .int (nI j)), (4, .int (nI ta)), (5, .int (nI ka)), (6, .int (nI k))] → W p x.1 e (zRM 2) s m ar below meth c H locs 0 0 Q (F0 m 120 ls []) := by
                        intro dd
                        induction dd with
                        | zero => intro k hm; exact absurd hm (Nat.not_lt_zero _)
                        | succ dd ih120 =>
                          intro k hm hk H locs ls hw hl
                          refine lv_iload hx hb dX6_copy_120 (lv_at hl 6 rfl) ?_
                          refine lv_iload hx hb dX6_copy_122 (lv_at hl 5 rfl) ?_
                          refine lv_icmp_ge (tgt := 154) hx hb dX6_copy_124 (by decide) (fun c124 => ?_) (fun c124 => ?_)
                          · have hke : k = ka := zke rfl (by omega) hk c124
                            have hw : zHw x A s.heap (zMW x a q g (zNM nn (zflL (fun l => nn i (fa + l)) mv ka)) (zflat S)) H locs := hw.re (by rw [hke])
                            refine lv_iconst (v := 0) hx hb dX6_copy_154 (by decide) ?_
                            refine lv_istore (lv' := [(6, .int 0), (0, .ref (a 0)), (1, .int (nI i)), (2, .int (nI fa)), (3, .int (nI j)), (4, .int (nI ta)), (5, .int (nI ka))]) hx hb dX6_copy_155 hl (by decide) rfl (fun ls hl => ?_)
                            have loop157 : ∀ (dd : Nat) (k : Nat), ka - k < dd → (hk : k ≤ ka) → ∀ (H : Heap) (locs : List Loc) (ls : Array Slot), zHw x A s.heap (zMW x a q g (zNM (zVL nn j (zcp (nn i) (nn j) fa ta k)) (zflL (fun l => nn i (fa + l)) mv ka)) (zflat S)) H locs → lv_has ls 7 [(0, .ref (a 0)), (1, .int (nI i)), (2, .int (nI fa)), (3, .int (nI j)), (4, .int (nI ta)), (5, .int (nI ka)), (6, .int (nI k))] → W p x.1 e (zRM 2) s m ar below meth c H locs 0 0 Q (F0 m 157 ls []) := by
                              intro dd
                              induction dd with
                              | zero => intro k hm; exact absurd hm (Nat.not_lt_zero _)
                              | succ dd ih157 =>
                                intro k hm hk H locs ls hw hl
                                refine lv_iload hx hb dX6_copy_157 (lv_at hl 6 rfl) ?_
                                refine lv_iload hx hb dX6_copy_159 (lv_at hl 5 rfl) ?_
                                refine lv_icmp_ge (tgt := 192) hx hb dX6_copy_161 (by decide) (fun c161 => ?_) (fun c161 => ?_)
                                · have hke : k = ka := zke rfl (by omega) hk c161
                                  have hw : zHw x A s.heap (zMW x a q g (zNM (zVL nn j (zcp (nn i) (nn j) fa ta ka)) (zflL (fun l => nn i (fa + l)) mv ka)) (zflat S)) H locs := hw.re (by rw [hke])
                                  refine lv_iload hx hb dX6_copy_192 (lv_at hl 5 rfl) ?_
                                  exact zFG.iret hx hb hr hlocks hQ hw rfl dX6_copy_194 (by rw [show zm_copy (g 7) (g 8) nn (g 5) (nI i) (nI fa) (nI j) (nI ta) (nI ka) = (nI ka, (zVL nn j (zcp (nn i) (nn j) fa ta ka)), g 5) from (by unfold zm_copy; rw [if_pos ⟨c4, c11⟩, zc_nI (show i < 2147483648 by omega), zc_nI (show j < 2147483648 by omega), if_neg (fun h => h.elim c27 c36), if_pos c59, if_pos hspan, zc_nI (show fa < 2147483648 by omega), zc_nI (show ta < 2147483648 by omega), zc_nI (show ka < 2147483648 by omega)])]; exact ⟨rfl, zPS.mk (zK0 g)⟩)
                                · have hkn : k < ka := zkn rfl (by omega) hk c161
                                  refine lv_aload_n hx hb dX6_copy_164 rfl (lv_at hl 0 rfl) ?_
                                  refine gfX6_34 hx hb hown hts hK hw 0 rfl rfl dX6_copy_165 ?_
                                  refine lv_bipush (v := 40) hx hb dX6_copy_168 (by decide) ?_
                                  refine lv_iload_n hx hb dX6_copy_170 rfl (lv_at hl 3 rfl) ?_
                                  refine lv_imul hx hb dX6_copy_171 ?_
                                  refine lv_iload hx hb dX6_copy_172 (lv_at hl 4 rfl) ?_
                                  refine lv_iadd hx hb dX6_copy_174 ?_
                                  refine lv_iload hx hb dX6_copy_175 (lv_at hl 6 rfl) ?_
                                  refine lv_iadd hx hb dX6_copy_177 ?_
                                  refine lv_aload_n hx hb dX6_copy_178 rfl (lv_at hl 0 rfl) ?_
                                  refine gfX6_38 hx hb hown hts hK hw 0 rfl rfl dX6_copy_179 ?_
                                  refine lv_iload hx hb dX6_copy_182 (lv_at hl 6 rfl) ?_
                                  refine zlal hx hb hK hw 10 1 k rfl rfl rfl (by omega) (by decide) dX6_copy_184 ?_
                                  refine W.eq (g2 := F0 m 185 ls [.long (nn i (fa + k)), .int (((40 * (nI j)) + (nI ta)) + (nI k)), .ref (a 9)]) (by rw [show zNM (zVL nn j (zcp (nn i) (nn j) fa ta k)) (zflL (fun l => nn i (fa + l)) mv ka) 1 k = nn i (fa + k) from if_pos hkn]) ?_
                                  refine zlas2 (f' := zfl (zUL (zVL nn j (zcp (nn i) (nn j) fa ta k)) j (ta + k) (nn i (fa + k)))) hx hb hK hw 9 1 (40 * j + (ta + k)) rfl rfl (zix3 j ta k) (by omega) (by decide) dX6_copy_185 (zfl_u (zVL nn j (zcp (nn i) (nn j) fa ta k)) _ (by omega)) (fun H locs hw => ?_)
                                  have hw : zHw x A s.heap (zMW x a q g (zNM (zUL (zVL nn j (zcp (nn i) (nn j) fa ta k)) j (ta + k) (nn i (fa + k))) (zflL (fun l => nn i (fa + l)) mv ka)) (zflat S)) H locs := hw
                                  have hw : zHw x A s.heap (zMW x a q g (zNM (zVL nn j (zcp (nn i) (nn j) fa ta (k + 1))) (zflL (fun l => nn i (fa + l)) mv ka)) (zflat S)) H locs := hw.re (by rw [zVL_U, zcp_s])
                                  refine lv_iinc (v := nI (k + 1)) (lv' := [(6, .int (nI (k + 1))), (0, .ref (a 0)), (1, .int (nI i)), (2, .int (nI fa)), (3, .int (nI j)), (4, .int (nI ta)), (5, .int (nI ka))]) hx hb dX6_copy_186 hl (k := 6) rfl (nI_1 k) (by decide) rfl (fun ls hl => ?_)
                                  refine lv_goto (tgt := 157) hx hb dX6_copy_189 (by decide) ?_
                                  exact ih157 (k + 1) (by omega) (by omega) _ _ _ hw (lv_sub hl [1, 2, 3, 4, 5, 6, 0] rfl)
                            exact loop157 (_ + 1) 0 (Nat.lt_succ_self _) (Nat.zero_le _) _ _ _ (hw.re (by rw [zcp_0, zVL_self])) (lv_sub hl [1, 2, 3, 4, 5, 6, 0] rfl)
                          · have hkn : k < ka := zkn rfl (by omega) hk c124
                            refine lv_aload_n hx hb dX6_copy_127 rfl (lv_at hl 0 rfl) ?_
                            refine gfX6_38 hx hb hown hts hK hw 0 rfl rfl dX6_copy_128 ?_
                            refine lv_iload hx hb dX6_copy_131 (lv_at hl 6 rfl) ?_
                            refine lv_aload_n hx hb dX6_copy_133 rfl (lv_at hl 0 rfl) ?_
                            refine gfX6_34 hx hb hown hts hK hw 0 rfl rfl dX6_copy_134 ?_
                            refine lv_bipush (v := 40) hx hb dX6_copy_137 (by decide) ?_
                            refine lv_iload_n hx hb dX6_copy_139 rfl (lv_at hl 1 rfl) ?_
                            refine lv_imul hx hb dX6_copy_140 ?_
                            refine lv_iload_n hx hb dX6_copy_141 rfl (lv_at hl 2 rfl) ?_
                            refine lv_iadd hx hb dX6_copy_142 ?_
                            refine lv_iload hx hb dX6_copy_143 (lv_at hl 6 rfl) ?_
                            refine lv_iadd hx hb dX6_copy_145 ?_
                            refine zlal2 (v := nn i (fa + k)) hx hb hK hw 9 1 (40 * i + (fa + k)) rfl rfl (zix3 i fa k) (by omega) (by decide) dX6_copy_146 (zfl_at nn (by omega)) ?_
                            refine zlas hx hb hK hw 10 1 k rfl rfl rfl (by omega) (by decide) dX6_copy_147 (fun H locs hw => ?_)
                            have hw : zHw x A s.heap (zMW x a q g (zUL (zNM nn (zflL (fun l => nn i (fa + l)) mv k)) 1 k (nn i (fa + k))) (zflat S)) H locs := hw
                            have hw : zHw x A s.heap (zMW x a q g (zNM nn (zflL (fun l => nn i (fa + l)) mv (k + 1))) (zflat S)) H locs := hw.re (congrArg (fun z => zMW x a q g (zNM nn z) (zflat S)) (zflL_s (fun l => nn i (fa + l)) mv k))
                            refine lv_iinc (v := nI (k + 1)) (lv' := [(6, .int (nI (k + 1))), (0, .ref (a 0)), (1, .int (nI i)), (2, .int (nI fa)), (3, .int (nI j)), (4, .int (nI ta)), (5, .int (nI ka))]) hx hb dX6_copy_148 hl (k := 6) rfl (nI_1 k) (by decide) rfl (fun ls hl => ?_)
                            refine lv_goto (tgt := 120) hx hb dX6_copy_151 (by decide) ?_
                            exact ih120 (k + 1) (by omega) (by omega) _ _ _ hw (lv_sub hl [1, 2, 3, 4, 5, 6, 0] rfl)
                      exact loop120 (_ + 1) 0 (Nat.lt_succ_self _) (Nat.zero_le _) _ _ _ (hw.re (by rw [zflL_0])) (lv_sub hl [1, 2, 3, 4, 5, 6, 0] rfl)
                    · refine lv_aload_n hx hb dX6_copy_110 rfl (lv_at hl 0 rfl) ?_
                      refine lv_ldc (v := (-1000000001)) hx hb hown (hts _ ckX6_45) dX6_copy_111 ?_
                      refine zcVwi (r := (-1000000001)) hx hb hml hown hts hl.1 hK hE hA lkX6_64 (c_X6_finds x a q g (zNM nn mv) (zflat S) (-1000000001) 0 (by decide) (by decide)) ⟨Nat.le_of_ble_eq_true rfl, Nat.le_of_ble_eq_true rfl⟩ ⟨Nat.zero_le _, Nat.zero_le _⟩ hw 0 4 rfl rfl rfl rfl (Nat.le_of_ble_eq_true rfl) dX6_copy_113 (fun H locs hw => ?_)
                      have hw : zHw x A s.heap (zMW x a q (zU g 5 0 (g 5 0 + 1)) (zNM nn mv) (zflat S)) H locs := hw
                      exact zFG.iret hx hb hr hlocks hQ hw rfl dX6_copy_116 (by rw [show zm_copy (g 7) (g 8) nn (g 5) (nI i) fr (nI j) to vn = ((-1000000001), nn, zFd (g 5) 0) from (by unfold zm_copy; rw [if_pos ⟨c4, c11⟩, zc_nI (show i < 2147483648 by omega), zc_nI (show j < 2147483648 by omega), if_neg (fun h => h.elim c27 c36), if_pos c59, if_neg (fun h => by first | exact absurd h.2.2.2.2 c107 | exact absurd h.2.2.2.1 (Int32.not_le.mpr c93) | exact absurd h.2.2.1 (Int32.not_le.mpr c80) | exact absurd h.2.1 (Int32.not_le.mpr c75) | exact absurd h.1 (Int32.not_le.mpr c70))])]; exact ⟨rfl, zPS.mk (zK1 g 0)⟩)
          · refine lv_aload_n hx hb dX6_copy_62 rfl (lv_at hl 0 rfl) ?_
            refine lv_ldc (v := (-1000000003)) hx hb hown (hts _ ckX6_121) dX6_copy_63 ?_
            refine zcVwi (r := (-1000000003)) hx hb hml hown hts hl.1 hK hE hA lkX6_64 (c_X6_finds x a q g (zNM nn mv) (zflat S) (-1000000003) 2 (by decide) (by decide)) ⟨Nat.le_of_ble_eq_true rfl, Nat.le_of_ble_eq_true rfl⟩ ⟨Nat.zero_le _, Nat.zero_le _⟩ hw 0 4 rfl rfl rfl rfl (Nat.le_of_ble_eq_true rfl) dX6_copy_65 (fun H locs hw => ?_)
            have hw : zHw x A s.heap (zMW x a q (zU g 5 2 (g 5 2 + 1)) (zNM nn mv) (zflat S)) H locs := hw
            exact zFG.iret hx hb hr hlocks hQ hw rfl dX6_copy_68 (by rw [show zm_copy (g 7) (g 8) nn (g 5) (nI i) fr (nI j) to vn = ((-1000000003), nn, zFd (g 5) 2) from (by unfold zm_copy; rw [if_pos ⟨c4, c11⟩, zc_nI (show i < 2147483648 by omega), zc_nI (show j < 2147483648 by omega), if_neg (fun h => h.elim c27 c36), if_neg c59])]; exact ⟨rfl, zPS.mk (zK1 g 2)⟩)
        · refine lv_aload_n hx hb dX6_copy_39 rfl (lv_at hl 0 rfl) ?_
          refine lv_ldcw (v := (-1000000006)) hx hb hown (hts _ ckX6_297) dX6_copy_40 ?_
          refine zcVwi (r := (-1000000006)) hx hb hml hown hts hl.1 hK hE hA lkX6_64 (c_X6_finds x a q g (zNM nn mv) (zflat S) (-1000000006) 5 (by decide) (by decide)) ⟨Nat.le_of_ble_eq_true rfl, Nat.le_of_ble_eq_true rfl⟩ ⟨Nat.zero_le _, Nat.zero_le _⟩ hw 0 4 rfl rfl rfl rfl (Nat.le_of_ble_eq_true rfl) dX6_copy_43 (fun H locs hw => ?_)
          have hw : zHw x A s.heap (zMW x a q (zU g 5 5 (g 5 5 + 1)) (zNM nn mv) (zflat S)) H locs := hw
          exact zFG.iret hx hb hr hlocks hQ hw rfl dX6_copy_46 (by rw [show zm_copy (g 7) (g 8) nn (g 5) (nI i) fr (nI j) to vn = ((-1000000006), nn, zFd (g 5) 5) from (by unfold zm_copy; rw [if_pos ⟨c4, c11⟩, zc_nI (show i < 2147483648 by omega), zc_nI (show j < 2147483648 by omega), if_pos (by first | exact Or.inr c36 | exact Or.inl c27)])]; exact ⟨rfl, zPS.mk (zK1 g 5)⟩)
    · have c11 := zb_0.mp c11
      refine lv_aload_n hx hb dX6_copy_14 rfl (lv_at hl 0 rfl) ?_
      refine lv_ldc (v := (-1000000001)) hx hb hown (hts _ ckX6_45) dX6_copy_15 ?_
      refine zcVwi (r := (-1000000001)) hx hb hml hown hts hl.1 hK hE hA lkX6_64 (c_X6_finds x a q g (zNM nn mv) (zflat S) (-1000000001) 0 (by decide) (by decide)) ⟨Nat.le_of_ble_eq_true rfl, Nat.le_of_ble_eq_true rfl⟩ ⟨Nat.zero_le _, Nat.zero_le _⟩ hw 0 4 rfl rfl rfl rfl (Nat.le_of_ble_eq_true rfl) dX6_copy_17 (fun H locs hw => ?_)
      have hw : zHw x A s.heap (zMW x a q (zU g 5 0 (g 5 0 + 1)) (zNM nn mv) (zflat S)) H locs := hw
      exact zFG.iret hx hb hr hlocks hQ hw rfl dX6_copy_20 (by rw [show zm_copy (g 7) (g 8) nn (g 5) y fr z to vn = ((-1000000001), nn, zFd (g 5) 0) from (by unfold zm_copy; first | rw [if_neg (fun h => c11 h.2)] | rw [if_neg (fun h => c4 h.1)])]; exact ⟨rfl, zPS.mk (zK1 g 0)⟩)
