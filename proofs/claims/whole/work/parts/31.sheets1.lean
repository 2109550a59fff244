set_option maxHeartbeats 4000000 in
set_option maxRecDepth 100000 in
theorem c_X1_isMissing (x : zX) (o n : Nat) (bi le : Int32) (f : Nat → Int64) : zFF x mX1_isMissing 0 [.ref o] (zSH x o n bi le f) (some (.int (zb (bi = 0)))) (zSH x o n bi le f) := by
  refine zFG.start RX1 cX1_isMissing 1 (some .boolean) rfl rfl (by decide +kernel) (Nat.le_of_ble_eq_true rfl) ?_
  intro p e s m ar below meth c ls A Q hx hb hr hml hown hts hlocks hK hE hA hQ hl hw
  have hl : lv_has ls 1 [(0, .ref o)] := hl
  have hw : zHw x A s.heap (zSH x o n bi le f) s.heap [] := hw
  refine lv_aload_n hx hb dX1_isMissing_0 rfl (lv_at hl 0 rfl) ?_
  refine gfX1_9 hx hb hown hts hK hw 0 rfl rfl dX1_isMissing_1 ?_
  refine lv_if_ne (tgt := 11) hx hb dX1_isMissing_4 (by decide) (fun c4 => ?_) (fun c4 => ?_)
  · refine lv_iconst (v := 0) hx hb dX1_isMissing_11 (by decide) ?_
    exact zFG.zret hx hb hr hlocks hQ hw rfl dX1_isMissing_12 (by decide) ⟨zsi (by first | exact (zb_t c4).symm | exact (zb_f c4).symm), rfl⟩
  · refine lv_iconst (v := 1) hx hb dX1_isMissing_7 (by decide) ?_
    refine lv_goto (tgt := 12) hx hb dX1_isMissing_8 (by decide) ?_
    exact zFG.zret hx hb hr hlocks hQ hw rfl dX1_isMissing_12 (by decide) ⟨zsi (by first | exact (zb_t c4).symm | exact (zb_f c4).symm), rfl⟩

set_option maxHeartbeats 4000000 in
set_option maxRecDepth 100000 in
theorem c_X1_begin (x : zX) (o n : Nat) (bi le : Int32) (f : Nat → Int64) (vb vl : Int32) : zFF x mX1_begin 0 [.ref o, .int vb, .int vl] (zSH x o n bi le f) none (zSH x o n vb vl (fun _ => 0)) := by
  refine zFG.start RX1 cX1_begin 4 none rfl rfl (by decide +kernel) (Nat.le_of_ble_eq_true rfl) ?_
  intro p e s m ar below meth c ls A Q hx hb hr hml hown hts hlocks hK hE hA hQ hl hw
  have hl : lv_has ls 4 [(0, .ref o), (1, .int vb), (2, .int vl)] := hl
  have hw : zHw x A s.heap (zSH x o n bi le f) s.heap [] := hw
  refine lv_aload_n hx hb dX1_begin_0 rfl (lv_at hl 0 rfl) ?_
  refine lv_iload_n hx hb dX1_begin_1 rfl (lv_at hl 1 rfl) ?_
  refine pfX1_9 hx hb hown hts hK hw 0 rfl (Nat.le_of_ble_eq_true rfl) dX1_begin_2 (fun H locs hw => ?_)
  have hw : zHw x A s.heap (zSH x o n vb le f) H locs := hw
  refine lv_aload_n hx hb dX1_begin_5 rfl (lv_at hl 0 rfl) ?_
  refine lv_iload_n hx hb dX1_begin_6 rfl (lv_at hl 2 rfl) ?_
  refine pfX1_15 hx hb hown hts hK hw 0 rfl (Nat.le_of_ble_eq_true rfl) dX1_begin_7 (fun H locs hw => ?_)
  have hw : zHw x A s.heap (zSH x o n vb vl f) H locs := hw
  refine lv_iconst (v := 0) hx hb dX1_begin_10 (by decide) ?_
  refine lv_istore_n (lv' := [(3, .int 0), (0, .ref o), (1, .int vb), (2, .int vl)]) hx hb dX1_begin_11 rfl hl (by decide) rfl (fun ls hl => ?_)
  have loop12 : ∀ (dd : Nat) (k : Nat), 40 - k < dd → (hk : k ≤ 40) → ∀ (H : Heap) (locs : List Loc) (ls : Array Slot), zHw x A s.heap (zSH x o n vb vl (zflL (fun _ => 0) f k)) H locs → lv_has ls 4 [(0, .ref o), (3, .int (nI k))] → W p x.1 e (zRM 0) s m ar below meth c H locs 0 0 Q (F0 m 12 ls []) := by
    intro dd
    induction dd with
    | zero => intro k hm; exact absurd hm (Nat.not_lt_zero _)
    | succ dd ih12 =>
      intro k hm hk H locs ls hw hl
      refine lv_iload_n hx hb dX1_begin_12 rfl (lv_at hl 1 rfl) ?_
      refine lv_bipush (v := 40) hx hb dX1_begin_13 (by decide) ?_
      refine lv_icmp_ge (tgt := 31) hx hb dX1_begin_15 (by decide) (fun c15 => ?_) (fun c15 => ?_)
      · have hke : k = 40 := zke (v := 40) rfl (by omega) hk c15
        subst hke
        have hw := hw.congL 1 (fun _ => 0) rfl (fun j hj => if_pos hj)
        have hw : zHw x A s.heap (zSH x o n vb vl (fun _ => 0)) H locs := hw
        exact zFG.vret hx hb hr hlocks hQ hw rfl dX1_begin_31 ⟨rfl, rfl⟩
      · have hkn : k < 40 := zkn (v := 40) rfl (by omega) hk c15
        refine lv_aload_n hx hb dX1_begin_18 rfl (lv_at hl 0 rfl) ?_
        refine gfX1_18 hx hb hown hts hK hw 0 rfl rfl dX1_begin_19 ?_
        refine lv_iload_n hx hb dX1_begin_22 rfl (lv_at hl 1 rfl) ?_
        refine lv_lconst (v := 0) hx hb dX1_begin_23 (by decide) ?_
        refine zlas hx hb hK hw 1 1 k rfl rfl rfl (by omega) (by decide) dX1_begin_24 (fun H locs hw => ?_)
        have hw : zHw x A s.heap (zSH x o n vb vl (vp_updL (zflL (fun _ => 0) f k) k 0)) H locs := hw
        have hw : zHw x A s.heap (zSH x o n vb vl (zflL (fun _ => 0) f (k + 1))) H locs := by
          rw [show zflL (fun _ => 0) f (k + 1) = vp_updL (zflL (fun _ => 0) f k) k 0 from (zflL_s (fun _ => 0) f k).symm]; exact hw
        refine lv_iinc (v := nI (k + 1)) (lv' := [(3, .int (nI (k + 1))), (0, .ref o)]) hx hb dX1_begin_25 hl (k := 1) rfl (nI_1 k) (by decide) rfl (fun ls hl => ?_)
        refine lv_goto (tgt := 12) hx hb dX1_begin_28 (by decide) ?_
        exact ih12 (k + 1) (by omega) (by omega) _ _ _ hw (lv_sub hl [1, 0] rfl)
  exact loop12 (_ + 1) 0 (Nat.lt_succ_self _) (Nat.zero_le _) _ _ _ (hw.re (by rw [zflL_0])) (lv_sub hl [1, 0] rfl)

set_option maxHeartbeats 4000000 in
set_option maxRecDepth 100000 in
theorem c_X1_put (x : zX) (o n : Nat) (bi le : Int32) (f : Nat → Int64) (k : Nat) (v : Int64) (hk : k < 40) (hlt : nI k < le) : zFF x mX1_put 0 [.ref o, .int (nI k), .long v] (zSH x o n bi le f) none (zSH x o n bi le (vp_updL f k (zna bi v))) := by
  refine zFG.start RX1 cX1_put 4 none rfl rfl (by decide +kernel) (Nat.le_of_ble_eq_true rfl) ?_
  intro p e s m ar below meth c ls A Q hx hb hr hml hown hts hlocks hK hE hA hQ hl hw
  have hl : lv_has ls 4 [(0, .ref o), (1, .int (nI k)), (2, .long v)] := hl
  have hw : zHw x A s.heap (zSH x o n bi le f) s.heap [] := hw
  refine lv_iload_n hx hb dX1_put_0 rfl (lv_at hl 1 rfl) ?_
  refine lv_if_lt (tgt := 12) hx hb dX1_put_1 (by decide) (fun c1 => absurd c1 (nI_pos (by omega))) (fun c1 => ?_)
  refine lv_iload_n hx hb dX1_put_4 rfl (lv_at hl 1 rfl) ?_
  refine lv_aload_n hx hb dX1_put_5 rfl (lv_at hl 0 rfl) ?_
  refine gfX1_15 hx hb hown hts hK hw 0 rfl rfl dX1_put_6 ?_
  refine lv_icmp_lt (tgt := 13) hx hb dX1_put_9 (by decide) (fun c9 => ?_) (fun c9 => absurd (hlt) c9)
  refine lv_aload_n hx hb dX1_put_13 rfl (lv_at hl 0 rfl) ?_
  refine gfX1_9 hx hb hown hts hK hw 0 rfl rfl dX1_put_14 ?_
  refine lv_bipush (v := 8) hx hb dX1_put_17 (by decide) ?_
  refine lv_icmp_ne (tgt := 35) hx hb dX1_put_19 (by decide) (fun c19 => ?_) (fun c19 => ?_)
  · refine lv_aload_n hx hb dX1_put_35 rfl (lv_at hl 0 rfl) ?_
    refine gfX1_9 hx hb hown hts hK hw 0 rfl rfl dX1_put_36 ?_
    refine lv_bipush (v := 16) hx hb dX1_put_39 (by decide) ?_
    refine lv_icmp_ne (tgt := 57) hx hb dX1_put_41 (by decide) (fun c41 => ?_) (fun c41 => ?_)
    · refine lv_aload_n hx hb dX1_put_57 rfl (lv_at hl 0 rfl) ?_
      refine gfX1_18 hx hb hown hts hK hw 0 rfl rfl dX1_put_58 ?_
      refine lv_iload_n hx hb dX1_put_61 rfl (lv_at hl 1 rfl) ?_
      refine lv_lload_n hx hb dX1_put_62 rfl (lv_at hl 2 rfl) ?_
      refine zlas hx hb hK hw 1 1 k rfl rfl rfl (by omega) (by decide) dX1_put_63 (fun H locs hw => ?_)
      have hw : zHw x A s.heap (zSH x o n bi le (vp_updL f k v)) H locs := hw
      exact zFG.vret hx hb hr hlocks hQ hw rfl dX1_put_64 ⟨rfl, congrArg (fun z => zSH x o n bi le (vp_updL f k z)) (by unfold zna; first | (rw [if_pos c19]; done) | (rw [if_neg c19, if_pos c41]; done) | (rw [if_neg c19, if_neg c41]; done))⟩
    · refine lv_aload_n hx hb dX1_put_44 rfl (lv_at hl 0 rfl) ?_
      refine gfX1_18 hx hb hown hts hK hw 0 rfl rfl dX1_put_45 ?_
      refine lv_iload_n hx hb dX1_put_48 rfl (lv_at hl 1 rfl) ?_
      refine lv_lload_n hx hb dX1_put_49 rfl (lv_at hl 2 rfl) ?_
      refine lv_l2i hx hb dX1_put_50 rfl ?_
      refine lv_i2s hx hb dX1_put_51 rfl ?_
      refine lv_i2l hx hb dX1_put_52 rfl ?_
      refine zlas hx hb hK hw 1 1 k rfl rfl rfl (by omega) (by decide) dX1_put_53 (fun H locs hw => ?_)
      have hw : zHw x A s.heap (zSH x o n bi le (vp_updL f k v.toInt32.toInt16.toInt32.toInt64)) H locs := hw
      refine lv_goto (tgt := 64) hx hb dX1_put_54 (by decide) ?_
      exact zFG.vret hx hb hr hlocks hQ hw rfl dX1_put_64 ⟨rfl, congrArg (fun z => zSH x o n bi le (vp_updL f k z)) (by unfold zna; first | (rw [if_pos c19]; done) | (rw [if_neg c19, if_pos c41]; done) | (rw [if_neg c19, if_neg c41]; done))⟩
  · refine lv_aload_n hx hb dX1_put_22 rfl (lv_at hl 0 rfl) ?_
    refine gfX1_18 hx hb hown hts hK hw 0 rfl rfl dX1_put_23 ?_
    refine lv_iload_n hx hb dX1_put_26 rfl (lv_at hl 1 rfl) ?_
    refine lv_lload_n hx hb dX1_put_27 rfl (lv_at hl 2 rfl) ?_
    refine lv_l2i hx hb dX1_put_28 rfl ?_
    refine lv_i2b hx hb dX1_put_29 rfl ?_
    refine lv_i2l hx hb dX1_put_30 rfl ?_
    refine zlas hx hb hK hw 1 1 k rfl rfl rfl (by omega) (by decide) dX1_put_31 (fun H locs hw => ?_)
    have hw : zHw x A s.heap (zSH x o n bi le (vp_updL f k v.toInt32.toInt8.toInt32.toInt64)) H locs := hw
    refine lv_goto (tgt := 64) hx hb dX1_put_32 (by decide) ?_
    exact zFG.vret hx hb hr hlocks hQ hw rfl dX1_put_64 ⟨rfl, congrArg (fun z => zSH x o n bi le (vp_updL f k z)) (by unfold zna; first | (rw [if_pos c19]; done) | (rw [if_neg c19, if_pos c41]; done) | (rw [if_neg c19, if_neg c41]; done))⟩

set_option maxHeartbeats 4000000 in
set_option maxRecDepth 100000 in
theorem c_X1_hasSpan (x : zX) (o n : Nat) (bi le : Int32) (f : Nat → Int64) (v w : Int32) : zFF x mX1_hasSpan 0 [.ref o, .int v, .int w] (zSH x o n bi le f) (some (.int (zb (0 ≤ v ∧ 0 ≤ w ∧ w ≤ le ∧ v ≤ le - w)))) (zSH x o n bi le f) := by
  refine zFG.start RX1 cX1_hasSpan 3 (some .boolean) rfl rfl (by decide +kernel) (Nat.le_of_ble_eq_true rfl) ?_
  intro p e s m ar below meth c ls A Q hx hb hr hml hown hts hlocks hK hE hA hQ hl hw
  have hl : lv_has ls 3 [(0, .ref o), (1, .int v), (2, .int w)] := hl
  have hw : zHw x A s.heap (zSH x o n bi le f) s.heap [] := hw
  refine lv_iload_n hx hb dX1_hasSpan_0 rfl (lv_at hl 1 rfl) ?_
  refine lv_if_lt (tgt := 30) hx hb dX1_hasSpan_1 (by decide) (fun c1 => ?_) (fun c1 => ?_)
  · refine lv_iconst (v := 0) hx hb dX1_hasSpan_30 (by decide) ?_
    exact zFG.zret hx hb hr hlocks hQ hw rfl dX1_hasSpan_31 (by decide) ⟨zsi (by first | exact (zb_t ⟨Int32.not_lt.mp c1, Int32.not_lt.mp c5, Int32.not_lt.mp c13, Int32.not_lt.mp c23⟩).symm | exact (zb_f (fun h => absurd h.2.2.2 (Int32.not_le.mpr c23))).symm | exact (zb_f (fun h => absurd h.2.2.1 (Int32.not_le.mpr c13))).symm | exact (zb_f (fun h => absurd h.2.1 (Int32.not_le.mpr c5))).symm | exact (zb_f (fun h => absurd h.1 (Int32.not_le.mpr c1))).symm), rfl⟩
  · refine lv_iload_n hx hb dX1_hasSpan_4 rfl (lv_at hl 2 rfl) ?_
    refine lv_if_lt (tgt := 30) hx hb dX1_hasSpan_5 (by decide) (fun c5 => ?_) (fun c5 => ?_)
    · refine lv_iconst (v := 0) hx hb dX1_hasSpan_30 (by decide) ?_
      exact zFG.zret hx hb hr hlocks hQ hw rfl dX1_hasSpan_31 (by decide) ⟨zsi (by first | exact (zb_t ⟨Int32.not_lt.mp c1, Int32.not_lt.mp c5, Int32.not_lt.mp c13, Int32.not_lt.mp c23⟩).symm | exact (zb_f (fun h => absurd h.2.2.2 (Int32.not_le.mpr c23))).symm | exact (zb_f (fun h => absurd h.2.2.1 (Int32.not_le.mpr c13))).symm | exact (zb_f (fun h => absurd h.2.1 (Int32.not_le.mpr c5))).symm | exact (zb_f (fun h => absurd h.1 (Int32.not_le.mpr c1))).symm), rfl⟩
    · refine lv_iload_n hx hb dX1_hasSpan_8 rfl (lv_at hl 2 rfl) ?_
      refine lv_aload_n hx hb dX1_hasSpan_9 rfl (lv_at hl 0 rfl) ?_
      refine gfX1_15 hx hb hown hts hK hw 0 rfl rfl dX1_hasSpan_10 ?_
      refine lv_icmp_gt (tgt := 30) hx hb dX1_hasSpan_13 (by decide) (fun c13 => ?_) (fun c13 => ?_)
      · refine lv_iconst (v := 0) hx hb dX1_hasSpan_30 (by decide) ?_
        exact zFG.zret hx hb hr hlocks hQ hw rfl dX1_hasSpan_31 (by decide) ⟨zsi (by first | exact (zb_t ⟨Int32.not_lt.mp c1, Int32.not_lt.mp c5, Int32.not_lt.mp c13, Int32.not_lt.mp c23⟩).symm | exact (zb_f (fun h => absurd h.2.2.2 (Int32.not_le.mpr c23))).symm | exact (zb_f (fun h => absurd h.2.2.1 (Int32.not_le.mpr c13))).symm | exact (zb_f (fun h => absurd h.2.1 (Int32.not_le.mpr c5))).symm | exact (zb_f (fun h => absurd h.1 (Int32.not_le.mpr c1))).symm), rfl⟩
      · refine lv_iload_n hx hb dX1_hasSpan_16 rfl (lv_at hl 1 rfl) ?_
        refine lv_aload_n hx hb dX1_hasSpan_17 rfl (lv_at hl 0 rfl) ?_
        refine gfX1_15 hx hb hown hts hK hw 0 rfl rfl dX1_hasSpan_18 ?_
        refine lv_iload_n hx hb dX1_hasSpan_21 rfl (lv_at hl 2 rfl) ?_
        refine lv_isub hx hb dX1_hasSpan_22 ?_
        refine lv_icmp_gt (tgt := 30) hx hb dX1_hasSpan_23 (by decide) (fun c23 => ?_) (fun c23 => ?_)
        · refine lv_iconst (v := 0) hx hb dX1_hasSpan_30 (by decide) ?_
          exact zFG.zret hx hb hr hlocks hQ hw rfl dX1_hasSpan_31 (by decide) ⟨zsi (by first | exact (zb_t ⟨Int32.not_lt.mp c1, Int32.not_lt.mp c5, Int32.not_lt.mp c13, Int32.not_lt.mp c23⟩).symm | exact (zb_f (fun h => absurd h.2.2.2 (Int32.not_le.mpr c23))).symm | exact (zb_f (fun h => absurd h.2.2.1 (Int32.not_le.mpr c13))).symm | exact (zb_f (fun h => absurd h.2.1 (Int32.not_le.mpr c5))).symm | exact (zb_f (fun h => absurd h.1 (Int32.not_le.mpr c1))).symm), rfl⟩
        · refine lv_iconst (v := 1) hx hb dX1_hasSpan_26 (by decide) ?_
          refine lv_goto (tgt := 31) hx hb dX1_hasSpan_27 (by decide) ?_
          exact zFG.zret hx hb hr hlocks hQ hw rfl dX1_hasSpan_31 (by decide) ⟨zsi (by first | exact (zb_t ⟨Int32.not_lt.mp c1, Int32.not_lt.mp c5, Int32.not_lt.mp c13, Int32.not_lt.mp c23⟩).symm | exact (zb_f (fun h => absurd h.2.2.2 (Int32.not_le.mpr c23))).symm | exact (zb_f (fun h => absurd h.2.2.1 (Int32.not_le.mpr c13))).symm | exact (zb_f (fun h => absurd h.2.1 (Int32.not_le.mpr c5))).symm | exact (zb_f (fun h => absurd h.1 (Int32.not_le.mpr c1))).symm), rfl⟩

set_option maxHeartbeats 4000000 in
set_option maxRecDepth 100000 in
theorem c_X5_sheetAt_0 (x : zX) (b : Nat → Nat) (t : Nat → Nat → Nat) (S : zT) (l0 : Int32) (T : zT) (l1 : Int32) (K : zT) (l2 ik : Int32) (fd tb tq bo so : Nat → Int32) (nn : Nat → Nat → Int64) : zFF x mX5_sheetAt 0 [.ref (b 0), .int 0] (zHW x b t S l0 T l1 K l2 ik fd tb tq bo so nn) (some (.ref (b 5))) (zHW x b t S l0 T l1 K l2 ik fd tb tq bo so nn) := by
  refine zFG.start RX5 cX5_sheetAt 2 (some (.object "HoleFills$Sheet")) rfl rfl (by decide +kernel) (Nat.le_of_ble_eq_true rfl) ?_
  intro p e s m ar below meth c ls A Q hx hb hr hml hown hts hlocks hK hE hA hQ hl hw
  have hl : lv_has ls 2 [(0, .ref (b 0)), (1, .int 0)] := hl
  have hw : zHw x A s.heap (zHW x b t S l0 T l1 K l2 ik fd tb tq bo so nn) s.heap [] := hw
  refine lv_iload_n hx hb dX5_sheetAt_0 rfl (lv_at hl 1 rfl) ?_
  refine lv_if_lt (tgt := 18) hx hb dX5_sheetAt_1 (by decide) (fun c1 => absurd c1 (by decide)) (fun c1 => ?_)
  refine lv_iload_n hx hb dX5_sheetAt_4 rfl (lv_at hl 1 rfl) ?_
  refine lv_iconst (v := 4) hx hb dX5_sheetAt_5 (by decide) ?_
  refine lv_icmp_ge (tgt := 18) hx hb dX5_sheetAt_6 (by decide) (fun c6 => absurd c6 (by decide)) (fun c6 => ?_)
  refine lv_aload_n hx hb dX5_sheetAt_9 rfl (lv_at hl 0 rfl) ?_
  refine gfX5_35 hx hb hown hts hK hw 0 rfl rfl dX5_sheetAt_10 ?_
  refine lv_iload_n hx hb dX5_sheetAt_13 rfl (lv_at hl 1 rfl) ?_
  refine zaal hx hb hK hw 2 2 0 rfl rfl rfl (by decide) (by decide) dX5_sheetAt_14 ?_
  refine W.eq (g2 := F0 m 15 ls [.ref (b 5)]) rfl ?_
  refine lv_goto (tgt := 19) hx hb dX5_sheetAt_15 (by decide) ?_
  exact zFG.aret hx hb hr (by first | exact Or.inl ⟨_, rfl⟩ | exact Or.inr ⟨_, rfl⟩) (by first | exact Or.inl rfl | exact Or.inr ⟨_, rfl⟩) hlocks hQ hw rfl dX5_sheetAt_19 ⟨rfl, rfl⟩

set_option maxHeartbeats 4000000 in
set_option maxRecDepth 100000 in
theorem c_X5_sheetAt_1 (x : zX) (b : Nat → Nat) (t : Nat → Nat → Nat) (S : zT) (l0 : Int32) (T : zT) (l1 : Int32) (K : zT) (l2 ik : Int32) (fd tb tq bo so : Nat → Int32) (nn : Nat → Nat → Int64) : zFF x mX5_sheetAt 0 [.ref (b 0), .int 1] (zHW x b t S l0 T l1 K l2 ik fd tb tq bo so nn) (some (.ref (b 6))) (zHW x b t S l0 T l1 K l2 ik fd tb tq bo so nn) := by
  refine zFG.start RX5 cX5_sheetAt 2 (some (.object "HoleFills$Sheet")) rfl rfl (by decide +kernel) (Nat.le_of_ble_eq_true rfl) ?_
  intro p e s m ar below meth c ls A Q hx hb hr hml hown hts hlocks hK hE hA hQ hl hw
  have hl : lv_has ls 2 [(0, .ref (b 0)), (1, .int 1)] := hl
  have hw : zHw x A s.heap (zHW x b t S l0 T l1 K l2 ik fd tb tq bo so nn) s.heap [] := hw
  refine lv_iload_n hx hb dX5_sheetAt_0 rfl (lv_at hl 1 rfl) ?_
  refine lv_if_lt (tgt := 18) hx hb dX5_sheetAt_1 (by decide) (fun c1 => absurd c1 (by decide)) (fun c1 => ?_)
  refine lv_iload_n hx hb dX5_sheetAt_4 rfl (lv_at hl 1 rfl) ?_
  refine lv_iconst (v := 4) hx hb dX5_sheetAt_5 (by decide) ?_
  refine lv_icmp_ge (tgt := 18) hx hb dX5_sheetAt_6 (by decide) (fun c6 => absurd c6 (by decide)) (fun c6 => ?_)
  refine lv_aload_n hx hb dX5_sheetAt_9 rfl (lv_at hl 0 rfl) ?_
  refine gfX5_35 hx hb hown hts hK hw 0 rfl rfl dX5_sheetAt_10 ?_
  refine lv_iload_n hx hb dX5_sheetAt_13 rfl (lv_at hl 1 rfl) ?_
  refine zaal hx hb hK hw 2 2 1 rfl rfl rfl (by decide) (by decide) dX5_sheetAt_14 ?_
  refine W.eq (g2 := F0 m 15 ls [.ref (b 6)]) rfl ?_
  refine lv_goto (tgt := 19) hx hb dX5_sheetAt_15 (by decide) ?_
  exact zFG.aret hx hb hr (by first | exact Or.inl ⟨_, rfl⟩ | exact Or.inr ⟨_, rfl⟩) (by first | exact Or.inl rfl | exact Or.inr ⟨_, rfl⟩) hlocks hQ hw rfl dX5_sheetAt_19 ⟨rfl, rfl⟩

set_option maxHeartbeats 4000000 in
set_option maxRecDepth 100000 in
theorem c_X5_sheetAt_2 (x : zX) (b : Nat → Nat) (t : Nat → Nat → Nat) (S : zT) (l0 : Int32) (T : zT) (l1 : Int32) (K : zT) (l2 ik : Int32) (fd tb tq bo so : Nat → Int32) (nn : Nat → Nat → Int64) : zFF x mX5_sheetAt 0 [.ref (b 0), .int 2] (zHW x b t S l0 T l1 K l2 ik fd tb tq bo so nn) (some (.ref (b 7))) (zHW x b t S l0 T l1 K l2 ik fd tb tq bo so nn) := by
  refine zFG.start RX5 cX5_sheetAt 2 (some (.object "HoleFills$Sheet")) rfl rfl (by decide +kernel) (Nat.le_of_ble_eq_true rfl) ?_
  intro p e s m ar below meth c ls A Q hx hb hr hml hown hts hlocks hK hE hA hQ hl hw
  have hl : lv_has ls 2 [(0, .ref (b 0)), (1, .int 2)] := hl
  have hw : zHw x A s.heap (zHW x b t S l0 T l1 K l2 ik fd tb tq bo so nn) s.heap [] := hw
  refine lv_iload_n hx hb dX5_sheetAt_0 rfl (lv_at hl 1 rfl) ?_
  refine lv_if_lt (tgt := 18) hx hb dX5_sheetAt_1 (by decide) (fun c1 => absurd c1 (by decide)) (fun c1 => ?_)
  refine lv_iload_n hx hb dX5_sheetAt_4 rfl (lv_at hl 1 rfl) ?_
  refine lv_iconst (v := 4) hx hb dX5_sheetAt_5 (by decide) ?_
  refine lv_icmp_ge (tgt := 18) hx hb dX5_sheetAt_6 (by decide) (fun c6 => absurd c6 (by decide)) (fun c6 => ?_)
  refine lv_aload_n hx hb dX5_sheetAt_9 rfl (lv_at hl 0 rfl) ?_
  refine gfX5_35 hx hb hown hts hK hw 0 rfl rfl dX5_sheetAt_10 ?_
  refine lv_iload_n hx hb dX5_sheetAt_13 rfl (lv_at hl 1 rfl) ?_
  refine zaal hx hb hK hw 2 2 2 rfl rfl rfl (by decide) (by decide) dX5_sheetAt_14 ?_
  refine W.eq (g2 := F0 m 15 ls [.ref (b 7)]) rfl ?_
  refine lv_goto (tgt := 19) hx hb dX5_sheetAt_15 (by decide) ?_
  exact zFG.aret hx hb hr (by first | exact Or.inl ⟨_, rfl⟩ | exact Or.inr ⟨_, rfl⟩) (by first | exact Or.inl rfl | exact Or.inr ⟨_, rfl⟩) hlocks hQ hw rfl dX5_sheetAt_19 ⟨rfl, rfl⟩

set_option maxHeartbeats 4000000 in
set_option maxRecDepth 100000 in
theorem c_X5_sheetAt_3 (x : zX) (b : Nat → Nat) (t : Nat → Nat → Nat) (S : zT) (l0 : Int32) (T : zT) (l1 : Int32) (K : zT) (l2 ik : Int32) (fd tb tq bo so : Nat → Int32) (nn : Nat → Nat → Int64) : zFF x mX5_sheetAt 0 [.ref (b 0), .int 3] (zHW x b t S l0 T l1 K l2 ik fd tb tq bo so nn) (some (.ref (b 8))) (zHW x b t S l0 T l1 K l2 ik fd tb tq bo so nn) := by
  refine zFG.start RX5 cX5_sheetAt 2 (some (.object "HoleFills$Sheet")) rfl rfl (by decide +kernel) (Nat.le_of_ble_eq_true rfl) ?_
  intro p e s m ar below meth c ls A Q hx hb hr hml hown hts hlocks hK hE hA hQ hl hw
  have hl : lv_has ls 2 [(0, .ref (b 0)), (1, .int 3)] := hl
  have hw : zHw x A s.heap (zHW x b t S l0 T l1 K l2 ik fd tb tq bo so nn) s.heap [] := hw
  refine lv_iload_n hx hb dX5_sheetAt_0 rfl (lv_at hl 1 rfl) ?_
  refine lv_if_lt (tgt := 18) hx hb dX5_sheetAt_1 (by decide) (fun c1 => absurd c1 (by decide)) (fun c1 => ?_)
  refine lv_iload_n hx hb dX5_sheetAt_4 rfl (lv_at hl 1 rfl) ?_
  refine lv_iconst (v := 4) hx hb dX5_sheetAt_5 (by decide) ?_
  refine lv_icmp_ge (tgt := 18) hx hb dX5_sheetAt_6 (by decide) (fun c6 => absurd c6 (by decide)) (fun c6 => ?_)
  refine lv_aload_n hx hb dX5_sheetAt_9 rfl (lv_at hl 0 rfl) ?_
  refine gfX5_35 hx hb hown hts hK hw 0 rfl rfl dX5_sheetAt_10 ?_
  refine lv_iload_n hx hb dX5_sheetAt_13 rfl (lv_at hl 1 rfl) ?_
  refine zaal hx hb hK hw 2 2 3 rfl rfl rfl (by decide) (by decide) dX5_sheetAt_14 ?_
  refine W.eq (g2 := F0 m 15 ls [.ref (b 8)]) rfl ?_
  refine lv_goto (tgt := 19) hx hb dX5_sheetAt_15 (by decide) ?_
  exact zFG.aret hx hb hr (by first | exact Or.inl ⟨_, rfl⟩ | exact Or.inr ⟨_, rfl⟩) (by first | exact Or.inl rfl | exact Or.inr ⟨_, rfl⟩) hlocks hQ hw rfl dX5_sheetAt_19 ⟨rfl, rfl⟩

set_option maxHeartbeats 4000000 in
set_option maxRecDepth 100000 in
theorem c_X5_sheetAt_no (x : zX) (b : Nat → Nat) (t : Nat → Nat → Nat) (S : zT) (l0 : Int32) (T : zT) (l1 : Int32) (K : zT) (l2 ik : Int32) (fd tb tq bo so : Nat → Int32) (nn : Nat → Nat → Int64) (y : Int32) (hno : ¬ z4 y) : zFF x mX5_sheetAt 0 [.ref (b 0), .int y] (zHW x b t S l0 T l1 K l2 ik fd tb tq bo so nn) (some (Value.null)) (zHW x b t S l0 T l1 K l2 ik fd tb tq bo so nn) := by
  refine zFG.start RX5 cX5_sheetAt 2 (some (.object "HoleFills$Sheet")) rfl rfl (by decide +kernel) (Nat.le_of_ble_eq_true rfl) ?_
  intro p e s m ar below meth c ls A Q hx hb hr hml hown hts hlocks hK hE hA hQ hl hw
  have hl : lv_has ls 2 [(0, .ref (b 0)), (1, .int y)] := hl
  have hw : zHw x A s.heap (zHW x b t S l0 T l1 K l2 ik fd tb tq bo so nn) s.heap [] := hw
  refine lv_iload_n hx hb dX5_sheetAt_0 rfl (lv_at hl 1 rfl) ?_
  refine lv_if_lt (tgt := 18) hx hb dX5_sheetAt_1 (by decide) (fun c1 => ?_) (fun c1 => ?_)
  · refine lv_null hx hb dX5_sheetAt_18 ?_
    exact zFG.aret hx hb hr (by first | exact Or.inl ⟨_, rfl⟩ | exact Or.inr ⟨_, rfl⟩) (by first | exact Or.inl rfl | exact Or.inr ⟨_, rfl⟩) hlocks hQ hw rfl dX5_sheetAt_19 ⟨rfl, rfl⟩
  · refine lv_iload_n hx hb dX5_sheetAt_4 rfl (lv_at hl 1 rfl) ?_
    refine lv_iconst (v := 4) hx hb dX5_sheetAt_5 (by decide) ?_
    refine lv_icmp_ge (tgt := 18) hx hb dX5_sheetAt_6 (by decide) (fun c6 => ?_) (fun c6 => ?_)
    · refine lv_null hx hb dX5_sheetAt_18 ?_
      exact zFG.aret hx hb hr (by first | exact Or.inl ⟨_, rfl⟩ | exact Or.inr ⟨_, rfl⟩) (by first | exact Or.inl rfl | exact Or.inr ⟨_, rfl⟩) hlocks hQ hw rfl dX5_sheetAt_19 ⟨rfl, rfl⟩
    · exact absurd ⟨Int32.not_lt.mp c1, Int32.not_le.mp c6⟩ hno

set_option maxHeartbeats 4000000 in
set_option maxRecDepth 100000 in
theorem c_X5_sheet (x : zX) (b : Nat → Nat) (t : Nat → Nat → Nat) (S : zT) (l0 : Int32) (T : zT) (l1 : Int32) (K : zT) (l2 ik : Int32) (fd tb tq bo so : Nat → Int32) (nn : Nat → Nat → Int64) (y vb vn : Int32) : zFG x mX5_sheet 1 [.ref (b 0), .int y, .int vb, .int vn] (zHW x b t S l0 T l1 K l2 ik fd tb tq bo so nn) (fun v' u' => v' = some (.int (zm_sheet bo so nn fd y vb vn).1) ∧ u' = zHW x b t S l0 T l1 K l2 ik (zm_sheet bo so nn fd y vb vn).2.2.2.2 tb tq (zm_sheet bo so nn fd y vb vn).2.1 (zm_sheet bo so nn fd y vb vn).2.2.1 (zm_sheet bo so nn fd y vb vn).2.2.2.1) := by
  refine zFG.start RX5 cX5_sheet 5 (some .int) rfl rfl (by decide +kernel) (Nat.le_of_ble_eq_true rfl) ?_
  intro p e s m ar below meth c ls A Q hx hb hr hml hown hts hlocks hK hE hA hQ hl hw
  have hl : lv_has ls 5 [(0, .ref (b 0)), (1, .int y), (2, .int vb), (3, .int vn)] := hl
  have hw : zHw x A s.heap (zHW x b t S l0 T l1 K l2 ik fd tb tq bo so nn) s.heap [] := hw
  rcases zcase4 y with rfl | rfl | rfl | rfl | hno
  · refine lv_aload_n hx hb dX5_sheet_0 rfl (lv_at hl 0 rfl) ?_
    refine lv_iload_n hx hb dX5_sheet_1 rfl (lv_at hl 1 rfl) ?_
    refine zcVwa hx hb hml hown hts hl.1 hK hE hA lkX5_219 (c_X5_sheetAt_0 x b t S l0 T l1 K l2 ik fd tb tq bo so nn) ⟨Nat.le_of_ble_eq_true rfl, Nat.le_of_ble_eq_true rfl⟩ ⟨Nat.zero_le _, Nat.zero_le _⟩ hw 0 3 rfl rfl rfl rfl (Nat.le_of_ble_eq_true rfl) dX5_sheet_2 (fun H locs hw => ?_)
    have hw : zHw x A s.heap (zHW x b t S l0 T l1 K l2 ik fd tb tq bo so nn) H locs := hw
    refine lv_astore (lv' := [(4, .ref (b 5)), (0, .ref (b 0)), (1, .int 0), (2, .int vb), (3, .int vn)]) hx hb dX5_sheet_5 hl (by decide) rfl (fun ls hl => ?_)
    refine lv_aload hx hb dX5_sheet_7 (lv_at hl 0 rfl) ?_
    refine lv_ifnull hx hb dX5_sheet_9 ?_
    refine lv_iload_n hx hb dX5_sheet_12 rfl (lv_at hl 3 rfl) ?_
    refine lv_if_eq (tgt := 41) hx hb dX5_sheet_13 (by decide) (fun c13 => ?_) (fun c13 => ?_)
    · refine lv_iload_n hx hb dX5_sheet_41 rfl (lv_at hl 4 rfl) ?_
      refine lv_if_ge (tgt := 52) hx hb dX5_sheet_42 (by decide) (fun c42 => ?_) (fun c42 => ?_)
      · refine lv_iload_n hx hb dX5_sheet_52 rfl (lv_at hl 4 rfl) ?_
        refine lv_bipush (v := 40) hx hb dX5_sheet_53 (by decide) ?_
        refine lv_icmp_le (tgt := 65) hx hb dX5_sheet_55 (by decide) (fun c55 => ?_) (fun c55 => ?_)
        · refine lv_aload hx hb dX5_sheet_65 (lv_at hl 0 rfl) ?_
          refine lv_iload_n hx hb dX5_sheet_67 rfl (lv_at hl 3 rfl) ?_
          refine lv_iload_n hx hb dX5_sheet_68 rfl (lv_at hl 3 rfl) ?_
          refine lv_if_ne (tgt := 76) hx hb dX5_sheet_69 (by decide) (fun c69 => ?_) (fun c69 => ?_)
          · refine lv_iload_n hx hb dX5_sheet_76 rfl (lv_at hl 4 rfl) ?_
            refine zcVmv (C1 := (zOW x b t ik fd ++ (zTW x (t 0) S l0 ++ (zTW x (t 1) T l1 ++ (zTW x (t 2) K l2 ++ zPW x b tb tq))))) (C2 := (zSH x (b 6) (b 10) (bo 1) (so 1) (nn 1) ++ (zSH x (b 7) (b 11) (bo 2) (so 2) (nn 2) ++ zSH x (b 8) (b 12) (bo 3) (so 3) (nn 3)))) hx hb hml hown hts hl.1 hK hE hA lkX5_224 (c_X1_begin x (b 5) (b 9) (bo 0) (so 0) (nn 0) vb vn) ⟨Nat.le_of_ble_eq_true rfl, Nat.le_of_ble_eq_true rfl⟩ ⟨Nat.zero_le _, Nat.zero_le _⟩ hw 0 0 rfl rfl rfl rfl (Nat.le_of_ble_eq_true rfl) dX5_sheet_77 (fun H locs hw => ?_)
            have hw : zHw x A s.heap (zHW x b t S l0 T l1 K l2 ik fd tb tq (upd bo 0 vb) (upd so 0 vn) (zVL nn 0 (fun _ => 0))) H locs := hw
            refine lv_aload hx hb dX5_sheet_80 (lv_at hl 0 rfl) ?_
            refine gfX5_227 hx hb hown hts hK hw 32 rfl rfl dX5_sheet_82 ?_
            exact zFG.iret hx hb hr hlocks hQ hw rfl dX5_sheet_85 (by rw [show zm_sheet bo so nn fd 0 vb vn = ((upd so 0 vn) 0, upd bo 0 vb, upd so 0 vn, zVL nn 0 (fun _ => 0), fd) from (by unfold zm_sheet; rw [if_pos ⟨by decide, (by first | exact Or.inl c13 | exact Or.inr (Or.inl c19) | exact Or.inr (Or.inr (Or.inl c25)) | exact Or.inr (Or.inr (Or.inr c31)))⟩, if_neg (Int32.not_lt.mpr c42), if_neg (Int32.not_lt.mpr c55)]; first | (rw [if_pos c69]; rfl) | (rw [if_neg c69]; rfl))]; exact ⟨rfl, rfl⟩)
          · refine lv_iconst (v := 0) hx hb dX5_sheet_72 (by decide) ?_
            refine lv_goto (tgt := 77) hx hb dX5_sheet_73 (by decide) ?_
            refine zcVmv (C1 := (zOW x b t ik fd ++ (zTW x (t 0) S l0 ++ (zTW x (t 1) T l1 ++ (zTW x (t 2) K l2 ++ zPW x b tb tq))))) (C2 := (zSH x (b 6) (b 10) (bo 1) (so 1) (nn 1) ++ (zSH x (b 7) (b 11) (bo 2) (so 2) (nn 2) ++ zSH x (b 8) (b 12) (bo 3) (so 3) (nn 3)))) hx hb hml hown hts hl.1 hK hE hA lkX5_224 (c_X1_begin x (b 5) (b 9) (bo 0) (so 0) (nn 0) vb 0) ⟨Nat.le_of_ble_eq_true rfl, Nat.le_of_ble_eq_true rfl⟩ ⟨Nat.zero_le _, Nat.zero_le _⟩ hw 0 0 rfl rfl rfl rfl (Nat.le_of_ble_eq_true rfl) dX5_sheet_77 (fun H locs hw => ?_)
            have hw : zHw x A s.heap (zHW x b t S l0 T l1 K l2 ik fd tb tq (upd bo 0 vb) (upd so 0 0) (zVL nn 0 (fun _ => 0))) H locs := hw
            refine lv_aload hx hb dX5_sheet_80 (lv_at hl 0 rfl) ?_
            refine gfX5_227 hx hb hown hts hK hw 32 rfl rfl dX5_sheet_82 ?_
            exact zFG.iret hx hb hr hlocks hQ hw rfl dX5_sheet_85 (by rw [show zm_sheet bo so nn fd 0 vb vn = ((upd so 0 0) 0, upd bo 0 vb, upd so 0 0, zVL nn 0 (fun _ => 0), fd) from (by unfold zm_sheet; rw [if_pos ⟨by decide, (by first | exact Or.inl c13 | exact Or.inr (Or.inl c19) | exact Or.inr (Or.inr (Or.inl c25)) | exact Or.inr (Or.inr (Or.inr c31)))⟩, if_neg (Int32.not_lt.mpr c42), if_neg (Int32.not_lt.mpr c55)]; first | (rw [if_pos c69]; rfl) | (rw [if_neg c69]; rfl))]; exact ⟨rfl, rfl⟩)
        · refine lv_aload_n hx hb dX5_sheet_58 rfl (lv_at hl 1 rfl) ?_
          refine lv_ldc (v := (-1000000001)) hx hb hown (hts _ ckX5_51) dX5_sheet_59 ?_
          refine zcVwi (r := (-1000000001)) hx hb hml hown hts hl.1 hK hE hA lkX5_52 (c_X5_found x b t S l0 T l1 K l2 ik fd tb tq bo so nn (-1000000001) 0 (by decide) (by decide)) ⟨Nat.le_of_ble_eq_true rfl, Nat.le_of_ble_eq_true rfl⟩ ⟨Nat.zero_le _, Nat.zero_le _⟩ hw 0 3 rfl rfl rfl rfl (Nat.le_of_ble_eq_true rfl) dX5_sheet_61 (fun H locs hw => ?_)
          have hw : zHw x A s.heap (zHW x b t S l0 T l1 K l2 ik (upd fd 0 (fd 0 + 1)) tb tq bo so nn) H locs := hw
          exact zFG.iret hx hb hr hlocks hQ hw rfl dX5_sheet_64 (by rw [show zm_sheet bo so nn fd 0 vb vn = ((-1000000001), bo, so, nn, zFd fd 0) from (by unfold zm_sheet; rw [if_pos ⟨by decide, (by first | exact Or.inl c13 | exact Or.inr (Or.inl c19) | exact Or.inr (Or.inr (Or.inl c25)) | exact Or.inr (Or.inr (Or.inr c31)))⟩, if_neg (Int32.not_lt.mpr c42), if_pos (Int32.not_le.mp c55)])]; exact ⟨rfl, rfl⟩)
      · refine lv_aload_n hx hb dX5_sheet_45 rfl (lv_at hl 1 rfl) ?_
        refine lv_ldc (v := (-1000000007)) hx hb hown (hts _ ckX5_223) dX5_sheet_46 ?_
        refine zcVwi (r := (-1000000007)) hx hb hml hown hts hl.1 hK hE hA lkX5_52 (c_X5_found x b t S l0 T l1 K l2 ik fd tb tq bo so nn (-1000000007) 6 (by decide) (by decide)) ⟨Nat.le_of_ble_eq_true rfl, Nat.le_of_ble_eq_true rfl⟩ ⟨Nat.zero_le _, Nat.zero_le _⟩ hw 0 3 rfl rfl rfl rfl (Nat.le_of_ble_eq_true rfl) dX5_sheet_48 (fun H locs hw => ?_)
        have hw : zHw x A s.heap (zHW x b t S l0 T l1 K l2 ik (upd fd 6 (fd 6 + 1)) tb tq bo so nn) H locs := hw
        exact zFG.iret hx hb hr hlocks hQ hw rfl dX5_sheet_51 (by rw [show zm_sheet bo so nn fd 0 vb vn = ((-1000000007), bo, so, nn, zFd fd 6) from (by unfold zm_sheet; rw [if_pos ⟨by decide, (by first | exact Or.inl c13 | exact Or.inr (Or.inl c19) | exact Or.inr (Or.inr (Or.inl c25)) | exact Or.inr (Or.inr (Or.inr c31)))⟩, if_pos (Int32.not_le.mp c42)])]; exact ⟨rfl, rfl⟩)
    · refine lv_iload_n hx hb dX5_sheet_16 rfl (lv_at hl 3 rfl) ?_
      refine lv_bipush (v := 8) hx hb dX5_sheet_17 (by decide) ?_
      refine lv_icmp_eq (tgt := 41) hx hb dX5_sheet_19 (by decide) (fun c19 => ?_) (fun c19 => ?_)
      · refine lv_iload_n hx hb dX5_sheet_41 rfl (lv_at hl 4 rfl) ?_
        refine lv_if_ge (tgt := 52) hx hb dX5_sheet_42 (by decide) (fun c42 => ?_) (fun c42 => ?_)
        · refine lv_iload_n hx hb dX5_sheet_52 rfl (lv_at hl 4 rfl) ?_
          refine lv_bipush (v := 40) hx hb dX5_sheet_53 (by decide) ?_
          refine lv_icmp_le (tgt := 65) hx hb dX5_sheet_55 (by decide) (fun c55 => ?_) (fun c55 => ?_)
          · refine lv_aload hx hb dX5_sheet_65 (lv_at hl 0 rfl) ?_
            refine lv_iload_n hx hb dX5_sheet_67 rfl (lv_at hl 3 rfl) ?_
            refine lv_iload_n hx hb dX5_sheet_68 rfl (lv_at hl 3 rfl) ?_
            refine lv_if_ne (tgt := 76) hx hb dX5_sheet_69 (by decide) (fun c69 => ?_) (fun c69 => ?_)
            · refine lv_iload_n hx hb dX5_sheet_76 rfl (lv_at hl 4 rfl) ?_
              refine zcVmv (C1 := (zOW x b t ik fd ++ (zTW x (t 0) S l0 ++ (zTW x (t 1) T l1 ++ (zTW x (t 2) K l2 ++ zPW x b tb tq))))) (C2 := (zSH x (b 6) (b 10) (bo 1) (so 1) (nn 1) ++ (zSH x (b 7) (b 11) (bo 2) (so 2) (nn 2) ++ zSH x (b 8) (b 12) (bo 3) (so 3) (nn 3)))) hx hb hml hown hts hl.1 hK hE hA lkX5_224 (c_X1_begin x (b 5) (b 9) (bo 0) (so 0) (nn 0) vb vn) ⟨Nat.le_of_ble_eq_true rfl, Nat.le_of_ble_eq_true rfl⟩ ⟨Nat.zero_le _, Nat.zero_le _⟩ hw 0 0 rfl rfl rfl rfl (Nat.le_of_ble_eq_true rfl) dX5_sheet_77 (fun H locs hw => ?_)
              have hw : zHw x A s.heap (zHW x b t S l0 T l1 K l2 ik fd tb tq (upd bo 0 vb) (upd so 0 vn) (zVL nn 0 (fun _ => 0))) H locs := hw
              refine lv_aload hx hb dX5_sheet_80 (lv_at hl 0 rfl) ?_
              refine gfX5_227 hx hb hown hts hK hw 32 rfl rfl dX5_sheet_82 ?_
              exact zFG.iret hx hb hr hlocks hQ hw rfl dX5_sheet_85 (by rw [show zm_sheet bo so nn fd 0 vb vn = ((upd so 0 vn) 0, upd bo 0 vb, upd so 0 vn, zVL nn 0 (fun _ => 0), fd) from (by unfold zm_sheet; rw [if_pos ⟨by decide, (by first | exact Or.inl c13 | exact Or.inr (Or.inl c19) | exact Or.inr (Or.inr (Or.inl c25)) | exact Or.inr (Or.inr (Or.inr c31)))⟩, if_neg (Int32.not_lt.mpr c42), if_neg (Int32.not_lt.mpr c55)]; first | (rw [if_pos c69]; rfl) | (rw [if_neg c69]; rfl))]; exact ⟨rfl, rfl⟩)
            · refine lv_iconst (v := 0) hx hb dX5_sheet_72 (by decide) ?_
              refine lv_goto (tgt := 77) hx hb dX5_sheet_73 (by decide) ?_
              refine zcVmv (C1 := (zOW x b t ik fd ++ (zTW x (t 0) S l0 ++ (zTW x (t 1) T l1 ++ (zTW x (t 2) K l2 ++ zPW x b tb tq))))) (C2 := (zSH x (b 6) (b 10) (bo 1) (so 1) (nn 1) ++ (zSH x (b 7) (b 11) (bo 2) (so 2) (nn 2) ++ zSH x (b 8) (b 12) (bo 3) (so 3) (nn 3)))) hx hb hml hown hts hl.1 hK hE hA lkX5_224 (c_X1_begin x (b 5) (b 9) (bo 0) (so 0) (nn 0) vb 0) ⟨Nat.le_of_ble_eq_true rfl, Nat.le_of_ble_eq_true rfl⟩ ⟨Nat.zero_le _, Nat.zero_le _⟩ hw 0 0 rfl rfl rfl rfl (Nat.le_of_ble_eq_true rfl) dX5_sheet_77 (fun H locs hw => ?_)
              have hw : zHw x A s.heap (zHW x b t S l0 T l1 K l2 ik fd tb tq (upd bo 0 vb) (upd so 0 0) (zVL nn 0 (fun _ => 0))) H locs := hw
              refine lv_aload hx hb dX5_sheet_80 (lv_at hl 0 rfl) ?_
              refine gfX5_227 hx hb hown hts hK hw 32 rfl rfl dX5_sheet_82 ?_
              exact zFG.iret hx hb hr hlocks hQ hw rfl dX5_sheet_85 (by rw [show zm_sheet bo so nn fd 0 vb vn = ((upd so 0 0) 0, upd bo 0 vb, upd so 0 0, zVL nn 0 (fun _ => 0), fd) from (by unfold zm_sheet; rw [if_pos ⟨by decide, (by first | exact Or.inl c13 | exact Or.inr (Or.inl c19) | exact Or.inr (Or.inr (Or.inl c25)) | exact Or.inr (Or.inr (Or.inr c31)))⟩, if_neg (Int32.not_lt.mpr c42), if_neg (Int32.not_lt.mpr c55)]; first | (rw [if_pos c69]; rfl) | (rw [if_neg c69]; rfl))]; exact ⟨rfl, rfl⟩)
          · refine lv_aload_n hx hb dX5_sheet_58 rfl (lv_at hl 1 rfl) ?_
            refine lv_ldc (v := (-1000000001)) hx hb hown (hts _ ckX5_51) dX5_sheet_59 ?_
            refine zcVwi (r := (-1000000001)) hx hb hml hown hts hl.1 hK hE hA lkX5_52 (c_X5_found x b t S l0 T l1 K l2 ik fd tb tq bo so nn (-1000000001) 0 (by decide) (by decide)) ⟨Nat.le_of_ble_eq_true rfl, Nat.le_of_ble_eq_true rfl⟩ ⟨Nat.zero_le _, Nat.zero_le _⟩ hw 0 3 rfl rfl rfl rfl (Nat.le_of_ble_eq_true rfl) dX5_sheet_61 (fun H locs hw => ?_)
            have hw : zHw x A s.heap (zHW x b t S l0 T l1 K l2 ik (upd fd 0 (fd 0 + 1)) tb tq bo so nn) H locs := hw
            exact zFG.iret hx hb hr hlocks hQ hw rfl dX5_sheet_64 (by rw [show zm_sheet bo so nn fd 0 vb vn = ((-1000000001), bo, so, nn, zFd fd 0) from (by unfold zm_sheet; rw [if_pos ⟨by decide, (by first | exact Or.inl c13 | exact Or.inr (Or.inl c19) | exact Or.inr (Or.inr (Or.inl c25)) | exact Or.inr (Or.inr (Or.inr c31)))⟩, if_neg (Int32.not_lt.mpr c42), if_pos (Int32.not_le.mp c55)])]; exact ⟨rfl, rfl⟩)
        · refine lv_aload_n hx hb dX5_sheet_45 rfl (lv_at hl 1 rfl) ?_
          refine lv_ldc (v := (-1000000007)) hx hb hown (hts _ ckX5_223) dX5_sheet_46 ?_
          refine zcVwi (r := (-1000000007)) hx hb hml hown hts hl.1 hK hE hA lkX5_52 (c_X5_found x b t S l0 T l1 K l2 ik fd tb tq bo so nn (-1000000007) 6 (by decide) (by decide)) ⟨Nat.le_of_ble_eq_true rfl, Nat.le_of_ble_eq_true rfl⟩ ⟨Nat.zero_le _, Nat.zero_le _⟩ hw 0 3 rfl rfl rfl rfl (Nat.le_of_ble_eq_true rfl) dX5_sheet_48 (fun H locs hw => ?_)
          have hw : zHw x A s.heap (zHW x b t S l0 T l1 K l2 ik (upd fd 6 (fd 6 + 1)) tb tq bo so nn) H locs := hw
          exact zFG.iret hx hb hr hlocks hQ hw rfl dX5_sheet_51 (by rw [show zm_sheet bo so nn fd 0 vb vn = ((-1000000007), bo, so, nn, zFd fd 6) from (by unfold zm_sheet; rw [if_pos ⟨by decide, (by first | exact Or.inl c13 | exact Or.inr (Or.inl c19) | exact Or.inr (Or.inr (Or.inl c25)) | exact Or.inr (Or.inr (Or.inr c31)))⟩, if_pos (Int32.not_le.mp c42)])]; exact ⟨rfl, rfl⟩)
      · refine lv_iload_n hx hb dX5_sheet_22 rfl (lv_at hl 3 rfl) ?_
        refine lv_bipush (v := 16) hx hb dX5_sheet_23 (by decide) ?_
        refine lv_icmp_eq (tgt := 41) hx hb dX5_sheet_25 (by decide) (fun c25 => ?_) (fun c25 => ?_)
        · refine lv_iload_n hx hb dX5_sheet_41 rfl (lv_at hl 4 rfl) ?_
          refine lv_if_ge (tgt := 52) hx hb dX5_sheet_42 (by decide) (fun c42 => ?_) (fun c42 => ?_)
          · refine lv_iload_n hx hb dX5_sheet_52 rfl (lv_at hl 4 rfl) ?_
            refine lv_bipush (v := 40) hx hb dX5_sheet_53 (by decide) ?_
            refine lv_icmp_le (tgt := 65) hx hb dX5_sheet_55 (by decide) (fun c55 => ?_) (fun c55 => ?_)
            · refine lv_aload hx hb dX5_sheet_65 (lv_at hl 0 rfl) ?_
              refine lv_iload_n hx hb dX5_sheet_67 rfl (lv_at hl 3 rfl) ?_
              refine lv_iload_n hx hb dX5_sheet_68 rfl (lv_at hl 3 rfl) ?_
              refine lv_if_ne (tgt := 76) hx hb dX5_sheet_69 (by decide) (fun c69 => ?_) (fun c69 => ?_)
              · refine lv_iload_n hx hb dX5_sheet_76 rfl (lv_at hl 4 rfl) ?_
                refine zcVmv (C1 := (zOW x b t ik fd ++ (zTW x (t 0) S l0 ++ (zTW x (t 1) T l1 ++ (zTW x (t 2) K l2 ++ zPW x b tb tq))))) (C2 := (zSH x (b 6) (b 10) (bo 1) (so 1) (nn 1) ++ (zSH x (b 7) (b 11) (bo 2) (so 2) (nn 2) ++ zSH x (b 8) (b 12) (bo 3) (so 3) (nn 3)))) hx hb hml hown hts hl.1 hK hE hA lkX5_224 (c_X1_begin x (b 5) (b 9) (bo 0) (so 0) (nn 0) vb vn) ⟨Nat.le_of_ble_eq_true rfl, Nat.le_of_ble_eq_true rfl⟩ ⟨Nat.zero_le _, Nat.zero_le _⟩ hw 0 0 rfl rfl rfl rfl (Nat.le_of_ble_eq_true rfl) dX5_sheet_77 (fun H locs hw => ?_)
                have hw : zHw x A s.heap (zHW x b t S l0 T l1 K l2 ik fd tb tq (upd bo 0 vb) (upd so 0 vn) (zVL nn 0 (fun _ => 0))) H locs := hw
                refine lv_aload hx hb dX5_sheet_80 (lv_at hl 0 rfl) ?_
                refine gfX5_227 hx hb hown hts hK hw 32 rfl rfl dX5_sheet_82 ?_
                exact zFG.iret hx hb hr hlocks hQ hw rfl dX5_sheet_85 (by rw [show zm_sheet bo so nn fd 0 vb vn = ((upd so 0 vn) 0, upd bo 0 vb, upd so 0 vn, zVL nn 0 (fun _ => 0), fd) from (by unfold zm_sheet; rw [if_pos ⟨by decide, (by first | exact Or.inl c13 | exact Or.inr (Or.inl c19) | exact Or.inr (Or.inr (Or.inl c25)) | exact Or.inr (Or.inr (Or.inr c31)))⟩, if_neg (Int32.not_lt.mpr c42), if_neg (Int32.not_lt.mpr c55)]; first | (rw [if_pos c69]; rfl) | (rw [if_neg c69]; rfl))]; exact ⟨rfl, rfl⟩)
              · refine lv_iconst (v := 0) hx hb dX5_sheet_72 (by decide) ?_
                refine lv_goto (tgt := 77) hx hb dX5_sheet_73 (by decide) ?_
                refine zcVmv (C1 := (zOW x b t ik fd ++ (zTW x (t 0) S l0 ++ (zTW x (t 1) T l1 ++ (zTW x (t 2) K l2 ++ zPW x b tb tq))))) (C2 := (zSH x (b 6) (b 10) (bo 1) (so 1) (nn 1) ++ (zSH x (b 7) (b 11) (bo 2) (so 2) (nn 2) ++ zSH x (b 8) (b 12) (bo 3) (so 3) (nn 3)))) hx hb hml hown hts hl.1 hK hE hA lkX5_224 (c_X1_begin x (b 5) (b 9) (bo 0) (so 0) (nn 0) vb 0) ⟨Nat.le_of_ble_eq_true rfl, Nat.le_of_ble_eq_true rfl⟩ ⟨Nat.zero_le _, Nat.zero_le _⟩ hw 0 0 rfl rfl rfl rfl (Nat.le_of_ble_eq_true rfl) dX5_sheet_77 (fun H locs hw => ?_)
                have hw : zHw x A s.heap (zHW x b t S l0 T l1 K l2 ik fd tb tq (upd bo 0 vb) (upd so 0 0) (zVL nn 0 (fun _ => 0))) H locs := hw
                refine lv_aload hx hb dX5_sheet_80 (lv_at hl 0 rfl) ?_
                refine gfX5_227 hx hb hown hts hK hw 32 rfl rfl dX5_sheet_82 ?_
                exact zFG.iret hx hb hr hlocks hQ hw rfl dX5_sheet_85 (by rw [show zm_sheet bo so nn fd 0 vb vn = ((upd so 0 0) 0, upd bo 0 vb, upd so 0 0, zVL nn 0 (fun _ => 0), fd) from (by unfold zm_sheet; rw [if_pos ⟨by decide, (by first | exact Or.inl c13 | exact Or.inr (Or.inl c19) | exact Or.inr (Or.inr (Or.inl c25)) | exact Or.inr (Or.inr (Or.inr c31)))⟩, if_neg (Int32.not_lt.mpr c42), if_neg (Int32.not_lt.mpr c55)]; first | (rw [if_pos c69]; rfl) | (rw [if_neg c69]; rfl))]; exact ⟨rfl, rfl⟩)
            · refine lv_aload_n hx hb dX5_sheet_58 rfl (lv_at hl 1 rfl) ?_
              refine lv_ldc (v := (-1000000001)) hx hb hown (hts _ ckX5_51) dX5_sheet_59 ?_
              refine zcVwi (r := (-1000000001)) hx hb hml hown hts hl.1 hK hE hA lkX5_52 (c_X5_found x b t S l0 T l1 K l2 ik fd tb tq bo so nn (-1000000001) 0 (by decide) (by decide)) ⟨Nat.le_of_ble_eq_true rfl, Nat.le_of_ble_eq_true rfl⟩ ⟨Nat.zero_le _, Nat.zero_le _⟩ hw 0 3 rfl rfl rfl rfl (Nat.le_of_ble_eq_true rfl) dX5_sheet_61 (fun H locs hw => ?_)
              have hw : zHw x A s.heap (zHW x b t S l0 T l1 K l2 ik (upd fd 0 (fd 0 + 1)) tb tq bo so nn) H locs := hw
              exact zFG.iret hx hb hr hlocks hQ hw rfl dX5_sheet_64 (by rw [show zm_sheet bo so nn fd 0 vb vn = ((-1000000001), bo, so, nn, zFd fd 0) from (by unfold zm_sheet; rw [if_pos ⟨by decide, (by first | exact Or.inl c13 | exact Or.inr (Or.inl c19) | exact Or.inr (Or.inr (Or.inl c25)) | exact Or.inr (Or.inr (Or.inr c31)))⟩, if_neg (Int32.not_lt.mpr c42), if_pos (Int32.not_le.mp c55)])]; exact ⟨rfl, rfl⟩)
          · refine lv_aload_n hx hb dX5_sheet_45 rfl (lv_at hl 1 rfl) ?_
            refine lv_ldc (v := (-1000000007)) hx hb hown (hts _ ckX5_223) dX5_sheet_46 ?_
            refine zcVwi (r := (-1000000007)) hx hb hml hown hts hl.1 hK hE hA lkX5_52 (c_X5_found x b t S l0 T l1 K l2 ik fd tb tq bo so nn (-1000000007) 6 (by decide) (by decide)) ⟨Nat.le_of_ble_eq_true rfl, Nat.le_of_ble_eq_true rfl⟩ ⟨Nat.zero_le _, Nat.zero_le _⟩ hw 0 3 rfl rfl rfl rfl (Nat.le_of_ble_eq_true rfl) dX5_sheet_48 (fun H locs hw => ?_)
            have hw : zHw x A s.heap (zHW x b t S l0 T l1 K l2 ik (upd fd 6 (fd 6 + 1)) tb tq bo so nn) H locs := hw
            exact zFG.iret hx hb hr hlocks hQ hw rfl dX5_sheet_51 (by rw [show zm_sheet bo so nn fd 0 vb vn = ((-1000000007), bo, so, nn, zFd fd 6) from (by unfold zm_sheet; rw [if_pos ⟨by decide, (by first | exact Or.inl c13 | exact Or.inr (Or.inl c19) | exact Or.inr (Or.inr (Or.inl c25)) | exact Or.inr (Or.inr (Or.inr c31)))⟩, if_pos (Int32.not_le.mp c42)])]; exact ⟨rfl, rfl⟩)
        · refine lv_iload_n hx hb dX5_sheet_28 rfl (lv_at hl 3 rfl) ?_
          refine lv_bipush (v := 64) hx hb dX5_sheet_29 (by decide) ?_
          refine lv_icmp_eq (tgt := 41) hx hb dX5_sheet_31 (by decide) (fun c31 => ?_) (fun c31 => ?_)
          · refine lv_iload_n hx hb dX5_sheet_41 rfl (lv_at hl 4 rfl) ?_
            refine lv_if_ge (tgt := 52) hx hb dX5_sheet_42 (by decide) (fun c42 => ?_) (fun c42 => ?_)
            · refine lv_iload_n hx hb dX5_sheet_52 rfl (lv_at hl 4 rfl) ?_
              refine lv_bipush (v := 40) hx hb dX5_sheet_53 (by decide) ?_
              refine lv_icmp_le (tgt := 65) hx hb dX5_sheet_55 (by decide) (fun c55 => ?_) (fun c55 => ?_)
              · refine lv_aload hx hb dX5_sheet_65 (lv_at hl 0 rfl) ?_
                refine lv_iload_n hx hb dX5_sheet_67 rfl (lv_at hl 3 rfl) ?_
                refine lv_iload_n hx hb dX5_sheet_68 rfl (lv_at hl 3 rfl) ?_
                refine lv_if_ne (tgt := 76) hx hb dX5_sheet_69 (by decide) (fun c69 => ?_) (fun c69 => ?_)
                · refine lv_iload_n hx hb dX5_sheet_76 rfl (lv_at hl 4 rfl) ?_
                  refine zcVmv (C1 := (zOW x b t ik fd ++ (zTW x (t 0) S l0 ++ (zTW x (t 1) T l1 ++ (zTW x (t 2) K l2 ++ zPW x b tb tq))))) (C2 := (zSH x (b 6) (b 10) (bo 1) (so 1) (nn 1) ++ (zSH x (b 7) (b 11) (bo 2) (so 2) (nn 2) ++ zSH x (b 8) (b 12) (bo 3) (so 3) (nn 3)))) hx hb hml hown hts hl.1 hK hE hA lkX5_224 (c_X1_begin x (b 5) (b 9) (bo 0) (so 0) (nn 0) vb vn) ⟨Nat.le_of_ble_eq_true rfl, Nat.le_of_ble_eq_true rfl⟩ ⟨Nat.zero_le _, Nat.zero_le _⟩ hw 0 0 rfl rfl rfl rfl (Nat.le_of_ble_eq_true rfl) dX5_sheet_77 (fun H locs hw => ?_)
                  have hw : zHw x A s.heap (zHW x b t S l0 T l1 K l2 ik fd tb tq (upd bo 0 vb) (upd so 0 vn) (zVL nn 0 (fun _ => 0))) H locs := hw
                  refine lv_aload hx hb dX5_sheet_80 (lv_at hl 0 rfl) ?_
                  refine gfX5_227 hx hb hown hts hK hw 32 rfl rfl dX5_sheet_82 ?_
                  exact zFG.iret hx hb hr hlocks hQ hw rfl dX5_sheet_85 (by rw [show zm_sheet bo so nn fd 0 vb vn = ((upd so 0 vn) 0, upd bo 0 vb, upd so 0 vn, zVL nn 0 (fun _ => 0), fd) from (by unfold zm_sheet; rw [if_pos ⟨by decide, (by first | exact Or.inl c13 | exact Or.inr (Or.inl c19) | exact Or.inr (Or.inr (Or.inl c25)) | exact Or.inr (Or.inr (Or.inr c31)))⟩, if_neg (Int32.not_lt.mpr c42), if_neg (Int32.not_lt.mpr c55)]; first | (rw [if_pos c69]; rfl) | (rw [if_neg c69]; rfl))]; exact ⟨rfl, rfl⟩)
                · refine lv_iconst (v := 0) hx hb dX5_sheet_72 (by decide) ?_
                  refine lv_goto (tgt := 77) hx hb dX5_sheet_73 (by decide) ?_
                  refine zcVmv (C1 := (zOW x b t ik fd ++ (zTW x (t 0) S l0 ++ (zTW x (t 1) T l1 ++ (zTW x (t 2) K l2 ++ zPW x b tb tq))))) (C2 := (zSH x (b 6) (b 10) (bo 1) (so 1) (nn 1) ++ (zSH x (b 7) (b 11) (bo 2) (so 2) (nn 2) ++ zSH x (b 8) (b 12) (bo 3) (so 3) (nn 3)))) hx hb hml hown hts hl.1 hK hE hA lkX5_224 (c_X1_begin x (b 5) (b 9) (bo 0) (so 0) (nn 0) vb 0) ⟨Nat.le_of_ble_eq_true rfl, Nat.le_of_ble_eq_true rfl⟩ ⟨Nat.zero_le _, Nat.zero_le _⟩ hw 0 0 rfl rfl rfl rfl (Nat.le_of_ble_eq_true rfl) dX5_sheet_77 (fun H locs hw => ?_)
                  have hw : zHw x A s.heap (zHW x b t S l0 T l1 K l2 ik fd tb tq (upd bo 0 vb) (upd so 0 0) (zVL nn 0 (fun _ => 0))) H locs := hw
                  refine lv_aload hx hb dX5_sheet_80 (lv_at hl 0 rfl) ?_
                  refine gfX5_227 hx hb hown hts hK hw 32 rfl rfl dX5_sheet_82 ?_
                  exact zFG.iret hx hb hr hlocks hQ hw rfl dX5_sheet_85 (by rw [show zm_sheet bo so nn fd 0 vb vn = ((upd so 0 0) 0, upd bo 0 vb, upd so 0 0, zVL nn 0 (fun _ => 0), fd) from (by unfold zm_sheet; rw [if_pos ⟨by decide, (by first | exact Or.inl c13 | exact Or.inr (Or.inl c19) | exact Or.inr (Or.inr (Or.inl c25)) | exact Or.inr (Or.inr (Or.inr c31)))⟩, if_neg (Int32.not_lt.mpr c42), if_neg (Int32.not_lt.mpr c55)]; first | (rw [if_pos c69]; rfl) | (rw [if_neg c69]; rfl))]; exact ⟨rfl, rfl⟩)
              · refine lv_aload_n hx hb dX5_sheet_58 rfl (lv_at hl 1 rfl) ?_
                refine lv_ldc (v := (-1000000001)) hx hb hown (hts _ ckX5_51) dX5_sheet_59 ?_
                refine zcVwi (r := (-1000000001)) hx hb hml hown hts hl.1 hK hE hA lkX5_52 (c_X5_found x b t S l0 T l1 K l2 ik fd tb tq bo so nn (-1000000001) 0 (by decide) (by decide)) ⟨Nat.le_of_ble_eq_true rfl, Nat.le_of_ble_eq_true rfl⟩ ⟨Nat.zero_le _, Nat.zero_le _⟩ hw 0 3 rfl rfl rfl rfl (Nat.le_of_ble_eq_true rfl) dX5_sheet_61 (fun H locs hw => ?_)
                have hw : zHw x A s.heap (zHW x b t S l0 T l1 K l2 ik (upd fd 0 (fd 0 + 1)) tb tq bo so nn) H locs := hw
                exact zFG.iret hx hb hr hlocks hQ hw rfl dX5_sheet_64 (by rw [show zm_sheet bo so nn fd 0 vb vn = ((-1000000001), bo, so, nn, zFd fd 0) from (by unfold zm_sheet; rw [if_pos ⟨by decide, (by first | exact Or.inl c13 | exact Or.inr (Or.inl c19) | exact Or.inr (Or.inr (Or.inl c25)) | exact Or.inr (Or.inr (Or.inr c31)))⟩, if_neg (Int32.not_lt.mpr c42), if_pos (Int32.not_le.mp c55)])]; exact ⟨rfl, rfl⟩)
            · refine lv_aload_n hx hb dX5_sheet_45 rfl (lv_at hl 1 rfl) ?_
              refine lv_ldc (v := (-1000000007)) hx hb hown (hts _ ckX5_223) dX5_sheet_46 ?_
              refine zcVwi (r := (-1000000007)) hx hb hml hown hts hl.1 hK hE hA lkX5_52 (c_X5_found x b t S l0 T l1 K l2 ik fd tb tq bo so nn (-1000000007) 6 (by decide) (by decide)) ⟨Nat.le_of_ble_eq_true rfl, Nat.le_of_ble_eq_true rfl⟩ ⟨Nat.zero_le _, Nat.zero_le _⟩ hw 0 3 rfl rfl rfl rfl (Nat.le_of_ble_eq_true rfl) dX5_sheet_48 (fun H locs hw => ?_)
              have hw : zHw x A s.heap (zHW x b t S l0 T l1 K l2 ik (upd fd 6 (fd 6 + 1)) tb tq bo so nn) H locs := hw
              exact zFG.iret hx hb hr hlocks hQ hw rfl dX5_sheet_51 (by rw [show zm_sheet bo so nn fd 0 vb vn = ((-1000000007), bo, so, nn, zFd fd 6) from (by unfold zm_sheet; rw [if_pos ⟨by decide, (by first | exact Or.inl c13 | exact Or.inr (Or.inl c19) | exact Or.inr (Or.inr (Or.inl c25)) | exact Or.inr (Or.inr (Or.inr c31)))⟩, if_pos (Int32.not_le.mp c42)])]; exact ⟨rfl, rfl⟩)
          · refine lv_aload_n hx hb dX5_sheet_34 rfl (lv_at hl 1 rfl) ?_
            refine lv_ldc (v := (-1000000001)) hx hb hown (hts _ ckX5_51) dX5_sheet_35 ?_
            refine zcVwi (r := (-1000000001)) hx hb hml hown hts hl.1 hK hE hA lkX5_52 (c_X5_found x b t S l0 T l1 K l2 ik fd tb tq bo so nn (-1000000001) 0 (by decide) (by decide)) ⟨Nat.le_of_ble_eq_true rfl, Nat.le_of_ble_eq_true rfl⟩ ⟨Nat.zero_le _, Nat.zero_le _⟩ hw 0 3 rfl rfl rfl rfl (Nat.le_of_ble_eq_true rfl) dX5_sheet_37 (fun H locs hw => ?_)
            have hw : zHw x A s.heap (zHW x b t S l0 T l1 K l2 ik (upd fd 0 (fd 0 + 1)) tb tq bo so nn) H locs := hw
            exact zFG.iret hx hb hr hlocks hQ hw rfl dX5_sheet_40 (by rw [show zm_sheet bo so nn fd 0 vb vn = ((-1000000001), bo, so, nn, zFd fd 0) from (by unfold zm_sheet; first | rw [if_neg (fun h => hno h.1)] | rw [if_neg (fun h => by rcases h.2 with q | q | q | q; exact c13 q; exact c19 q; exact c25 q; exact c31 q)])]; exact ⟨rfl, rfl⟩)
  · refine lv_aload_n hx hb dX5_sheet_0 rfl (lv_at hl 0 rfl) ?_
    refine lv_iload_n hx hb dX5_sheet_1 rfl (lv_at hl 1 rfl) ?_
    refine zcVwa hx hb hml hown hts hl.1 hK hE hA lkX5_219 (c_X5_sheetAt_1 x b t S l0 T l1 K l2 ik fd tb tq bo so nn) ⟨Nat.le_of_ble_eq_true rfl, Nat.le_of_ble_eq_true rfl⟩ ⟨Nat.zero_le _, Nat.zero_le _⟩ hw 0 3 rfl rfl rfl rfl (Nat.le_of_ble_eq_true rfl) dX5_sheet_2 (fun H locs hw => ?_)
    have hw : zHw x A s.heap (zHW x b t S l0 T l1 K l2 ik fd tb tq bo so nn) H locs := hw
    refine lv_astore (lv' := [(4, .ref (b 6)), (0, .ref (b 0)), (1, .int 1), (2, .int vb), (3, .int vn)]) hx hb dX5_sheet_5 hl (by decide) rfl (fun ls hl => ?_)
    refine lv_aload hx hb dX5_sheet_7 (lv_at hl 0 rfl) ?_
    refine lv_ifnull hx hb dX5_sheet_9 ?_
    refine lv_iload_n hx hb dX5_sheet_12 rfl (lv_at hl 3 rfl) ?_
    refine lv_if_eq (tgt := 41) hx hb dX5_sheet_13 (by decide) (fun c13 => ?_) (fun c13 => ?_)
    · refine lv_iload_n hx hb dX5_sheet_41 rfl (lv_at hl 4 rfl) ?_
      refine lv_if_ge (tgt := 52) hx hb dX5_sheet_42 (by decide) (fun c42 => ?_) (fun c42 => ?_)
      · refine lv_iload_n hx hb dX5_sheet_52 rfl (lv_at hl 4 rfl) ?_
        refine lv_bipush (v := 40) hx hb dX5_sheet_53 (by decide) ?_
        refine lv_icmp_le (tgt := 65) hx hb dX5_sheet_55 (by decide) (fun c55 => ?_) (fun c55 => ?_)
        · refine lv_aload hx hb dX5_sheet_65 (lv_at hl 0 rfl) ?_
          refine lv_iload_n hx hb dX5_sheet_67 rfl (lv_at hl 3 rfl) ?_
          refine lv_iload_n hx hb dX5_sheet_68 rfl (lv_at hl 3 rfl) ?_
          refine lv_if_ne (tgt := 76) hx hb dX5_sheet_69 (by decide) (fun c69 => ?_) (fun c69 => ?_)
          · refine lv_iload_n hx hb dX5_sheet_76 rfl (lv_at hl 4 rfl) ?_
            refine zcVmv (C1 := (zOW x b t ik fd ++ (zTW x (t 0) S l0 ++ (zTW x (t 1) T l1 ++ (zTW x (t 2) K l2 ++ (zPW x b tb tq ++ zSH x (b 5) (b 9) (bo 0) (so 0) (nn 0))))))) (C2 := (zSH x (b 7) (b 11) (bo 2) (so 2) (nn 2) ++ zSH x (b 8) (b 12) (bo 3) (so 3) (nn 3))) hx hb hml hown hts hl.1 hK hE hA lkX5_224 (c_X1_begin x (b 6) (b 10) (bo 1) (so 1) (nn 1) vb vn) ⟨Nat.le_of_ble_eq_true rfl, Nat.le_of_ble_eq_true rfl⟩ ⟨Nat.zero_le _, Nat.zero_le _⟩ hw 0 0 rfl rfl rfl rfl (Nat.le_of_ble_eq_true rfl) dX5_sheet_77 (fun H locs hw => ?_)
            have hw : zHw x A s.heap (zHW x b t S l0 T l1 K l2 ik fd tb tq (upd bo 1 vb) (upd so 1 vn) (zVL nn 1 (fun _ => 0))) H locs := hw
            refine lv_aload hx hb dX5_sheet_80 (lv_at hl 0 rfl) ?_
            refine gfX5_227 hx hb hown hts hK hw 34 rfl rfl dX5_sheet_82 ?_
            exact zFG.iret hx hb hr hlocks hQ hw rfl dX5_sheet_85 (by rw [show zm_sheet bo so nn fd 1 vb vn = ((upd so 1 vn) 1, upd bo 1 vb, upd so 1 vn, zVL nn 1 (fun _ => 0), fd) from (by unfold zm_sheet; rw [if_pos ⟨by decide, (by first | exact Or.inl c13 | exact Or.inr (Or.inl c19) | exact Or.inr (Or.inr (Or.inl c25)) | exact Or.inr (Or.inr (Or.inr c31)))⟩, if_neg (Int32.not_lt.mpr c42), if_neg (Int32.not_lt.mpr c55)]; first | (rw [if_pos c69]; rfl) | (rw [if_neg c69]; rfl))]; exact ⟨rfl, rfl⟩)
          · refine lv_iconst (v := 0) hx hb dX5_sheet_72 (by decide) ?_
            refine lv_goto (tgt := 77) hx hb dX5_sheet_73 (by decide) ?_
            refine zcVmv (C1 := (zOW x b t ik fd ++ (zTW x (t 0) S l0 ++ (zTW x (t 1) T l1 ++ (zTW x (t 2) K l2 ++ (zPW x b tb tq ++ zSH x (b 5) (b 9) (bo 0) (so 0) (nn 0))))))) (C2 := (zSH x (b 7) (b 11) (bo 2) (so 2) (nn 2) ++ zSH x (b 8) (b 12) (bo 3) (so 3) (nn 3))) hx hb hml hown hts hl.1 hK hE hA lkX5_224 (c_X1_begin x (b 6) (b 10) (bo 1) (so 1) (nn 1) vb 0) ⟨Nat.le_of_ble_eq_true rfl, Nat.le_of_ble_eq_true rfl⟩ ⟨Nat.zero_le _, Nat.zero_le _⟩ hw 0 0 rfl rfl rfl rfl (Nat.le_of_ble_eq_true rfl) dX5_sheet_77 (fun H locs hw => ?_)
            have hw : zHw x A s.heap (zHW x b t S l0 T l1 K l2 ik fd tb tq (upd bo 1 vb) (upd so 1 0) (zVL nn 1 (fun _ => 0))) H locs := hw
            refine lv_aload hx hb dX5_sheet_80 (lv_at hl 0 rfl) ?_
            refine gfX5_227 hx hb hown hts hK hw 34 rfl rfl dX5_sheet_82 ?_
            exact zFG.iret hx hb hr hlocks hQ hw rfl dX5_sheet_85 (by rw [show zm_sheet bo so nn fd 1 vb vn = ((upd so 1 0) 1, upd bo 1 vb, upd so 1 0, zVL nn 1 (fun _ => 0), fd) from (by unfold zm_sheet; rw [if_pos ⟨by decide, (by first | exact Or.inl c13 | exact Or.inr (Or.inl c19) | exact Or.inr (Or.inr (Or.inl c25)) | exact Or.inr (Or.inr (Or.inr c31)))⟩, if_neg (Int32.not_lt.mpr c42), if_neg (Int32.not_lt.mpr c55)]; first | (rw [if_pos c69]; rfl) | (rw [if_neg c69]; rfl))]; exact ⟨rfl, rfl⟩)
        · refine lv_aload_n hx hb dX5_sheet_58 rfl (lv_at hl 1 rfl) ?_
          refine lv_ldc (v := (-1000000001)) hx hb hown (hts _ ckX5_51) dX5_sheet_59 ?_
          refine zcVwi (r := (-1000000001)) hx hb hml hown hts hl.1 hK hE hA lkX5_52 (c_X5_found x b t S l0 T l1 K l2 ik fd tb tq bo so nn (-1000000001) 0 (by decide) (by decide)) ⟨Nat.le_of_ble_eq_true rfl, Nat.le_of_ble_eq_true rfl⟩ ⟨Nat.zero_le _, Nat.zero_le _⟩ hw 0 3 rfl rfl rfl rfl (Nat.le_of_ble_eq_true rfl) dX5_sheet_61 (fun H locs hw => ?_)
          have hw : zHw x A s.heap (zHW x b t S l0 T l1 K l2 ik (upd fd 0 (fd 0 + 1)) tb tq bo so nn) H locs := hw
          exact zFG.iret hx hb hr hlocks hQ hw rfl dX5_sheet_64 (by rw [show zm_sheet bo so nn fd 1 vb vn = ((-1000000001), bo, so, nn, zFd fd 0) from (by unfold zm_sheet; rw [if_pos ⟨by decide, (by first | exact Or.inl c13 | exact Or.inr (Or.inl c19) | exact Or.inr (Or.inr (Or.inl c25)) | exact Or.inr (Or.inr (Or.inr c31)))⟩, if_neg (Int32.not_lt.mpr c42), if_pos (Int32.not_le.mp c55)])]; exact ⟨rfl, rfl⟩)
      · refine lv_aload_n hx hb dX5_sheet_45 rfl (lv_at hl 1 rfl) ?_
        refine lv_ldc (v := (-1000000007)) hx hb hown (hts _ ckX5_223) dX5_sheet_46 ?_
        refine zcVwi (r := (-1000000007)) hx hb hml hown hts hl.1 hK hE hA lkX5_52 (c_X5_found x b t S l0 T l1 K l2 ik fd tb tq bo so nn (-1000000007) 6 (by decide) (by decide)) ⟨Nat.le_of_ble_eq_true rfl, Nat.le_of_ble_eq_true rfl⟩ ⟨Nat.zero_le _, Nat.zero_le _⟩ hw 0 3 rfl rfl rfl rfl (Nat.le_of_ble_eq_true rfl) dX5_sheet_48 (fun H locs hw => ?_)
        have hw : zHw x A s.heap (zHW x b t S l0 T l1 K l2 ik (upd fd 6 (fd 6 + 1)) tb tq bo so nn) H locs := hw
        exact zFG.iret hx hb hr hlocks hQ hw rfl dX5_sheet_51 (by rw [show zm_sheet bo so nn fd 1 vb vn = ((-1000000007), bo, so, nn, zFd fd 6) from (by unfold zm_sheet; rw [if_pos ⟨by decide, (by first | exact Or.inl c13 | exact Or.inr (Or.inl c19) | exact Or.inr (Or.inr (Or.inl c25)) | exact Or.inr (Or.inr (Or.inr c31)))⟩, if_pos (Int32.not_le.mp c42)])]; exact ⟨rfl, rfl⟩)
    · refine lv_iload_n hx hb dX5_sheet_16 rfl (lv_at hl 3 rfl) ?_
      refine lv_bipush (v := 8) hx hb dX5_sheet_17 (by decide) ?_
      refine lv_icmp_eq (tgt := 41) hx hb dX5_sheet_19 (by decide) (fun c19 => ?_) (fun c19 => ?_)
      · refine lv_iload_n hx hb dX5_sheet_41 rfl (lv_at hl 4 rfl) ?_
        refine lv_if_ge (tgt := 52) hx hb dX5_sheet_42 (by decide) (fun c42 => ?_) (fun c42 => ?_)
        · refine lv_iload_n hx hb dX5_sheet_52 rfl (lv_at hl 4 rfl) ?_
          refine lv_bipush (v := 40) hx hb dX5_sheet_53 (by decide) ?_
          refine lv_icmp_le (tgt := 65) hx hb dX5_sheet_55 (by decide) (fun c55 => ?_) (fun c55 => ?_)
          · refine lv_aload hx hb dX5_sheet_65 (lv_at hl 0 rfl) ?_
            refine lv_iload_n hx hb dX5_sheet_67 rfl (lv_at hl 3 rfl) ?_
            refine lv_iload_n hx hb dX5_sheet_68 rfl (lv_at hl 3 rfl) ?_
            refine lv_if_ne (tgt := 76) hx hb dX5_sheet_69 (by decide) (fun c69 => ?_) (fun c69 => ?_)
            · refine lv_iload_n hx hb dX5_sheet_76 rfl (lv_at hl 4 rfl) ?_
              refine zcVmv (C1 := (zOW x b t ik fd ++ (zTW x (t 0) S l0 ++ (zTW x (t 1) T l1 ++ (zTW x (t 2) K l2 ++ (zPW x b tb tq ++ zSH x (b 5) (b 9) (bo 0) (so 0) (nn 0))))))) (C2 := (zSH x (b 7) (b 11) (bo 2) (so 2) (nn 2) ++ zSH x (b 8) (b 12) (bo 3) (so 3) (nn 3))) hx hb hml hown hts hl.1 hK hE hA lkX5_224 (c_X1_begin x (b 6) (b 10) (bo 1) (so 1) (nn 1) vb vn) ⟨Nat.le_of_ble_eq_true rfl, Nat.le_of_ble_eq_true rfl⟩ ⟨Nat.zero_le _, Nat.zero_le _⟩ hw 0 0 rfl rfl rfl rfl (Nat.le_of_ble_eq_true rfl) dX5_sheet_77 (fun H locs hw => ?_)
              have hw : zHw x A s.heap (zHW x b t S l0 T l1 K l2 ik fd tb tq (upd bo 1 vb) (upd so 1 vn) (zVL nn 1 (fun _ => 0))) H locs := hw
              refine lv_aload hx hb dX5_sheet_80 (lv_at hl 0 rfl) ?_
              refine gfX5_227 hx hb hown hts hK hw 34 rfl rfl dX5_sheet_82 ?_
              exact zFG.iret hx hb hr hlocks hQ hw rfl dX5_sheet_85 (by rw [show zm_sheet bo so nn fd 1 vb vn = ((upd so 1 vn) 1, upd bo 1 vb, upd so 1 vn, zVL nn 1 (fun _ => 0), fd) from (by unfold zm_sheet; rw [if_pos ⟨by decide, (by first | exact Or.inl c13 | exact Or.inr (Or.inl c19) | exact Or.inr (Or.inr (Or.inl c25)) | exact Or.inr (Or.inr (Or.inr c31)))⟩, if_neg (Int32.not_lt.mpr c42), if_neg (Int32.not_lt.mpr c55)]; first | (rw [if_pos c69]; rfl) | (rw [if_neg c69]; rfl))]; exact ⟨rfl, rfl⟩)
            · refine lv_iconst (v := 0) hx hb dX5_sheet_72 (by decide) ?_
              refine lv_goto (tgt := 77) hx hb dX5_sheet_73 (by decide) ?_
              refine zcVmv (C1 := (zOW x b t ik fd ++ (zTW x (t 0) S l0 ++ (zTW x (t 1) T l1 ++ (zTW x (t 2) K l2 ++ (zPW x b tb tq ++ zSH x (b 5) (b 9) (bo 0) (so 0) (nn 0))))))) (C2 := (zSH x (b 7) (b 11) (bo 2) (so 2) (nn 2) ++ zSH x (b 8) (b 12) (bo 3) (so 3) (nn 3))) hx hb hml hown hts hl.1 hK hE hA lkX5_224 (c_X1_begin x (b 6) (b 10) (bo 1) (so 1) (nn 1) vb 0) ⟨Nat.le_of_ble_eq_true rfl, Nat.le_of_ble_eq_true rfl⟩ ⟨Nat.zero_le _, Nat.zero_le _⟩ hw 0 0 rfl rfl rfl rfl (Nat.le_of_ble_eq_true rfl) dX5_sheet_77 (fun H locs hw => ?_)
              have hw : zHw x A s.heap (zHW x b t S l0 T l1 K l2 ik fd tb tq (upd bo 1 vb) (upd so 1 0) (zVL nn 1 (fun _ => 0))) H locs := hw
              refine lv_aload hx hb dX5_sheet_80 (lv_at hl 0 rfl) ?_
              refine gfX5_227 hx hb hown hts hK hw 34 rfl rfl dX5_sheet_82 ?_
              exact zFG.iret hx hb hr hlocks hQ hw rfl dX5_sheet_85 (by rw [show zm_sheet bo so nn fd 1 vb vn = ((upd so 1 0) 1, upd bo 1 vb, upd so 1 0, zVL nn 1 (fun _ => 0), fd) from (by unfold zm_sheet; rw [if_pos ⟨by decide, (by first | exact Or.inl c13 | exact Or.inr (Or.inl c19) | exact Or.inr (Or.inr (Or.inl c25)) | exact Or.inr (Or.inr (Or.inr c31)))⟩, if_neg (Int32.not_lt.mpr c42), if_neg (Int32.not_lt.mpr c55)]; first | (rw [if_pos c69]; rfl) | (rw [if_neg c69]; rfl))]; exact ⟨rfl, rfl⟩)
          · refine lv_aload_n hx hb dX5_sheet_58 rfl (lv_at hl 1 rfl) ?_
            refine lv_ldc (v := (-1000000001)) hx hb hown (hts _ ckX5_51) dX5_sheet_59 ?_
            refine zcVwi (r := (-1000000001)) hx hb hml hown hts hl.1 hK hE hA lkX5_52 (c_X5_found x b t S l0 T l1 K l2 ik fd tb tq bo so nn (-1000000001) 0 (by decide) (by decide)) ⟨Nat.le_of_ble_eq_true rfl, Nat.le_of_ble_eq_true rfl⟩ ⟨Nat.zero_le _, Nat.zero_le _⟩ hw 0 3 rfl rfl rfl rfl (Nat.le_of_ble_eq_true rfl) dX5_sheet_61 (fun H locs hw => ?_)
            have hw : zHw x A s.heap (zHW x b t S l0 T l1 K l2 ik (upd fd 0 (fd 0 + 1)) tb tq bo so nn) H locs := hw
            exact zFG.iret hx hb hr hlocks hQ hw rfl dX5_sheet_64 (by rw [show zm_sheet bo so nn fd 1 vb vn = ((-1000000001), bo, so, nn, zFd fd 0) from (by unfold zm_sheet; rw [if_pos ⟨by decide, (by first | exact Or.inl c13 | exact Or.inr (Or.inl c19) | exact Or.inr (Or.inr (Or.inl c25)) | exact Or.inr (Or.inr (Or.inr c31)))⟩, if_neg (Int32.not_lt.mpr c42), if_pos (Int32.not_le.mp c55)])]; exact ⟨rfl, rfl⟩)
        · refine lv_aload_n hx hb dX5_sheet_45 rfl (lv_at hl 1 rfl) ?_
          refine lv_ldc (v := (-1000000007)) hx hb hown (hts _ ckX5_223) dX5_sheet_46 ?_
          refine zcVwi (r := (-1000000007)) hx hb hml hown hts hl.1 hK hE hA lkX5_52 (c_X5_found x b t S l0 T l1 K l2 ik fd tb tq bo so nn (-1000000007) 6 (by decide) (by decide)) ⟨Nat.le_of_ble_eq_true rfl, Nat.le_of_ble_eq_true rfl⟩ ⟨Nat.zero_le _, Nat.zero_le _⟩ hw 0 3 rfl rfl rfl rfl (Nat.le_of_ble_eq_true rfl) dX5_sheet_48 (fun H locs hw => ?_)
          have hw : zHw x A s.heap (zHW x b t S l0 T l1 K l2 ik (upd fd 6 (fd 6 + 1)) tb tq bo so nn) H locs := hw
          exact zFG.iret hx hb hr hlocks hQ hw rfl dX5_sheet_51 (by rw [show zm_sheet bo so nn fd 1 vb vn = ((-1000000007), bo, so, nn, zFd fd 6) from (by unfold zm_sheet; rw [if_pos ⟨by decide, (by first | exact Or.inl c13 | exact Or.inr (Or.inl c19) | exact Or.inr (Or.inr (Or.inl c25)) | exact Or.inr (Or.inr (Or.inr c31)))⟩, if_pos (Int32.not_le.mp c42)])]; exact ⟨rfl, rfl⟩)
      · refine lv_iload_n hx hb dX5_sheet_22 rfl (lv_at hl 3 rfl) ?_
        refine lv_bipush (v := 16) hx hb dX5_sheet_23 (by decide) ?_
        refine lv_icmp_eq (tgt := 41) hx hb dX5_sheet_25 (by decide) (fun c25 => ?_) (fun c25 => ?_)
        · refine lv_iload_n hx hb dX5_sheet_41 rfl (lv_at hl 4 rfl) ?_
          refine lv_if_ge (tgt := 52) hx hb dX5_sheet_42 (by decide) (fun c42 => ?_) (fun c42 => ?_)
          · refine lv_iload_n hx hb dX5_sheet_52 rfl (lv_at hl 4 rfl) ?_
            refine lv_bipush (v := 40) hx hb dX5_sheet_53 (by decide) ?_
            refine lv_icmp_le (tgt := 65) hx hb dX5_sheet_55 (by decide) (fun c55 => ?_) (fun c55 => ?_)
            · refine lv_aload hx hb dX5_sheet_65 (lv_at hl 0 rfl) ?_
              refine lv_iload_n hx hb dX5_sheet_67 rfl (lv_at hl 3 rfl) ?_
              refine lv_iload_n hx hb dX5_sheet_68 rfl (lv_at hl 3 rfl) ?_
              refine lv_if_ne (tgt := 76) hx hb dX5_sheet_69 (by decide) (fun c69 => ?_) (fun c69 => ?_)
              · refine lv_iload_n hx hb dX5_sheet_76 rfl (lv_at hl 4 rfl) ?_
                refine zcVmv (C1 := (zOW x b t ik fd ++ (zTW x (t 0) S l0 ++ (zTW x (t 1) T l1 ++ (zTW x (t 2) K l2 ++ (zPW x b tb tq ++ zSH x (b 5) (b 9) (bo 0) (so 0) (nn 0))))))) (C2 := (zSH x (b 7) (b 11) (bo 2) (so 2) (nn 2) ++ zSH x (b 8) (b 12) (bo 3) (so 3) (nn 3))) hx hb hml hown hts hl.1 hK hE hA lkX5_224 (c_X1_begin x (b 6) (b 10) (bo 1) (so 1) (nn 1) vb vn) ⟨Nat.le_of_ble_eq_true rfl, Nat.le_of_ble_eq_true rfl⟩ ⟨Nat.zero_le _, Nat.zero_le _⟩ hw 0 0 rfl rfl rfl rfl (Nat.le_of_ble_eq_true rfl) dX5_sheet_77 (fun H locs hw => ?_)
                have hw : zHw x A s.heap (zHW x b t S l0 T l1 K l2 ik fd tb tq (upd bo 1 vb) (upd so 1 vn) (zVL nn 1 (fun _ => 0))) H locs := hw
                refine lv_aload hx hb dX5_sheet_80 (lv_at hl 0 rfl) ?_
                refine gfX5_227 hx hb hown hts hK hw 34 rfl rfl dX5_sheet_82 ?_
                exact zFG.iret hx hb hr hlocks hQ hw rfl dX5_sheet_85 (by rw [show zm_sheet bo so nn fd 1 vb vn = ((upd so 1 vn) 1, upd bo 1 vb, upd so 1 vn, zVL nn 1 (fun _ => 0), fd) from (by unfold zm_sheet; rw [if_pos ⟨by decide, (by first | exact Or.inl c13 | exact Or.inr (Or.inl c19) | exact Or.inr (Or.inr (Or.inl c25)) | exact Or.inr (Or.inr (Or.inr c31)))⟩, if_neg (Int32.not_lt.mpr c42), if_neg (Int32.not_lt.mpr c55)]; first | (rw [if_pos c69]; rfl) | (rw [if_neg c69]; rfl))]; exact ⟨rfl, rfl⟩)
              · refine lv_iconst (v := 0) hx hb dX5_sheet_72 (by decide) ?_
                refine lv_goto (tgt := 77) hx hb dX5_sheet_73 (by decide) ?_
                refine zcVmv (C1 := (zOW x b t ik fd ++ (zTW x (t 0) S l0 ++ (zTW x (t 1) T l1 ++ (zTW x (t 2) K l2 ++ (zPW x b tb tq ++ zSH x (b 5) (b 9) (bo 0) (so 0) (nn 0))))))) (C2 := (zSH x (b 7) (b 11) (bo 2) (so 2) (nn 2) ++ zSH x (b 8) (b 12) (bo 3) (so 3) (nn 3))) hx hb hml hown hts hl.1 hK hE hA lkX5_224 (c_X1_begin x (b 6) (b 10) (bo 1) (so 1) (nn 1) vb 0) ⟨Nat.le_of_ble_eq_true rfl, Nat.le_of_ble_eq_true rfl⟩ ⟨Nat.zero_le _, Nat.zero_le _⟩ hw 0 0 rfl rfl rfl rfl (Nat.le_of_ble_eq_true rfl) dX5_sheet_77 (fun H locs hw => ?_)
                have hw : zHw x A s.heap (zHW x b t S l0 T l1 K l2 ik fd tb tq (upd bo 1 vb) (upd so 1 0) (zVL nn 1 (fun _ => 0))) H locs := hw
                refine lv_aload hx hb dX5_sheet_80 (lv_at hl 0 rfl) ?_
                refine gfX5_227 hx hb hown hts hK hw 34 rfl rfl dX5_sheet_82 ?_
                exact zFG.iret hx hb hr hlocks hQ hw rfl dX5_sheet_85 (by rw [show zm_sheet bo so nn fd 1 vb vn = ((upd so 1 0) 1, upd bo 1 vb, upd so 1 0, zVL nn 1 (fun _ => 0), fd) from (by unfold zm_sheet; rw [if_pos ⟨by decide, (by first | exact Or.inl c13 | exact Or.inr (Or.inl c19) | exact Or.inr (Or.inr (Or.inl c25)) | exact Or.inr (Or.inr (Or.inr c31)))⟩, if_neg (Int32.not_lt.mpr c42), if_neg (Int32.not_lt.mpr c55)]; first | (rw [if_pos c69]; rfl) | (rw [if_neg c69]; rfl))]; exact ⟨rfl, rfl⟩)
            · refine lv_aload_n hx hb dX5_sheet_58 rfl (lv_at hl 1 rfl) ?_
              refine lv_ldc (v := (-1000000001)) hx hb hown (hts _ ckX5_51) dX5_sheet_59 ?_
              refine zcVwi (r := (-1000000001)) hx hb hml hown hts hl.1 hK hE hA lkX5_52 (c_X5_found x b t S l0 T l1 K l2 ik fd tb tq bo so nn (-1000000001) 0 (by decide) (by decide)) ⟨Nat.le_of_ble_eq_true rfl, Nat.le_of_ble_eq_true rfl⟩ ⟨Nat.zero_le _, Nat.zero_le _⟩ hw 0 3 rfl rfl rfl rfl (Nat.le_of_ble_eq_true rfl) dX5_sheet_61 (fun H locs hw => ?_)
              have hw : zHw x A s.heap (zHW x b t S l0 T l1 K l2 ik (upd fd 0 (fd 0 + 1)) tb tq bo so nn) H locs := hw
              exact zFG.iret hx hb hr hlocks hQ hw rfl dX5_sheet_64 (by rw [show zm_sheet bo so nn fd 1 vb vn = ((-1000000001), bo, so, nn, zFd fd 0) from (by unfold zm_sheet; rw [if_pos ⟨by decide, (by first | exact Or.inl c13 | exact Or.inr (Or.inl c19) | exact Or.inr (Or.inr (Or.inl c25)) | exact Or.inr (Or.inr (Or.inr c31)))⟩, if_neg (Int32.not_lt.mpr c42), if_pos (Int32.not_le.mp c55)])]; exact ⟨rfl, rfl⟩)
          · refine lv_aload_n hx hb dX5_sheet_45 rfl (lv_at hl 1 rfl) ?_
            refine lv_ldc (v := (-1000000007)) hx hb hown (hts _ ckX5_223) dX5_sheet_46 ?_
            refine zcVwi (r := (-1000000007)) hx hb hml hown hts hl.1 hK hE hA lkX5_52 (c_X5_found x b t S l0 T l1 K l2 ik fd tb tq bo so nn (-1000000007) 6 (by decide) (by decide)) ⟨Nat.le_of_ble_eq_true rfl, Nat.le_of_ble_eq_true rfl⟩ ⟨Nat.zero_le _, Nat.zero_le _⟩ hw 0 3 rfl rfl rfl rfl (Nat.le_of_ble_eq_true rfl) dX5_sheet_48 (fun H locs hw => ?_)
            have hw : zHw x A s.heap (zHW x b t S l0 T l1 K l2 ik (upd fd 6 (fd 6 + 1)) tb tq bo so nn) H locs := hw
            exact zFG.iret hx hb hr hlocks hQ hw rfl dX5_sheet_51 (by rw [show zm_sheet bo so nn fd 1 vb vn = ((-1000000007), bo, so, nn, zFd fd 6) from (by unfold zm_sheet; rw [if_pos ⟨by decide, (by first | exact Or.inl c13 | exact Or.inr (Or.inl c19) | exact Or.inr (Or.inr (Or.inl c25)) | exact Or.inr (Or.inr (Or.inr c31)))⟩, if_pos (Int32.not_le.mp c42)])]; exact ⟨rfl, rfl⟩)
        · refine lv_iload_n hx hb dX5_sheet_28 rfl (lv_at hl 3 rfl) ?_
          refine lv_bipush (v := 64) hx hb dX5_sheet_29 (by decide) ?_
          refine lv_icmp_eq (tgt := 41) hx hb dX5_sheet_31 (by decide) (fun c31 => ?_) (fun c31 => ?_)
          · refine lv_iload_n hx hb dX5_sheet_41 rfl (lv_at hl 4 rfl) ?_
            refine lv_if_ge (tgt := 52) hx hb dX5_sheet_42 (by decide) (fun c42 => ?_) (fun c42 => ?_)
            · refine lv_iload_n hx hb dX5_sheet_52 rfl (lv_at hl 4 rfl) ?_
              refine lv_bipush (v := 40) hx hb dX5_sheet_53 (by decide) ?_
              refine lv_icmp_le (tgt := 65) hx hb dX5_sheet_55 (by decide) (fun c55 => ?_) (fun c55 => ?_)
              · refine lv_aload hx hb dX5_sheet_65 (lv_at hl 0 rfl) ?_
                refine lv_iload_n hx hb dX5_sheet_67 rfl (lv_at hl 3 rfl) ?_
                refine lv_iload_n hx hb dX5_sheet_68 rfl (lv_at hl 3 rfl) ?_
                refine lv_if_ne (tgt := 76) hx hb dX5_sheet_69 (by decide) (fun c69 => ?_) (fun c69 => ?_)
                · refine lv_iload_n hx hb dX5_sheet_76 rfl (lv_at hl 4 rfl) ?_
                  refine zcVmv (C1 := (zOW x b t ik fd ++ (zTW x (t 0) S l0 ++ (zTW x (t 1) T l1 ++ (zTW x (t 2) K l2 ++ (zPW x b tb tq ++ zSH x (b 5) (b 9) (bo 0) (so 0) (nn 0))))))) (C2 := (zSH x (b 7) (b 11) (bo 2) (so 2) (nn 2) ++ zSH x (b 8) (b 12) (bo 3) (so 3) (nn 3))) hx hb hml hown hts hl.1 hK hE hA lkX5_224 (c_X1_begin x (b 6) (b 10) (bo 1) (so 1) (nn 1) vb vn) ⟨Nat.le_of_ble_eq_true rfl, Nat.le_of_ble_eq_true rfl⟩ ⟨Nat.zero_le _, Nat.zero_le _⟩ hw 0 0 rfl rfl rfl rfl (Nat.le_of_ble_eq_true rfl) dX5_sheet_77 (fun H locs hw => ?_)
                  have hw : zHw x A s.heap (zHW x b t S l0 T l1 K l2 ik fd tb tq (upd bo 1 vb) (upd so 1 vn) (zVL nn 1 (fun _ => 0))) H locs := hw
                  refine lv_aload hx hb dX5_sheet_80 (lv_at hl 0 rfl) ?_
                  refine gfX5_227 hx hb hown hts hK hw 34 rfl rfl dX5_sheet_82 ?_
                  exact zFG.iret hx hb hr hlocks hQ hw rfl dX5_sheet_85 (by rw [show zm_sheet bo so nn fd 1 vb vn = ((upd so 1 vn) 1, upd bo 1 vb, upd so 1 vn, zVL nn 1 (fun _ => 0), fd) from (by unfold zm_sheet; rw [if_pos ⟨by decide, (by first | exact Or.inl c13 | exact Or.inr (Or.inl c19) | exact Or.inr (Or.inr (Or.inl c25)) | exact Or.inr (Or.inr (Or.inr c31)))⟩, if_neg (Int32.not_lt.mpr c42), if_neg (Int32.not_lt.mpr c55)]; first | (rw [if_pos c69]; rfl) | (rw [if_neg c69]; rfl))]; exact ⟨rfl, rfl⟩)
                · refine lv_iconst (v := 0) hx hb dX5_sheet_72 (by decide) ?_
                  refine lv_goto (tgt := 77) hx hb dX5_sheet_73 (by decide) ?_
                  refine zcVmv (C1 := (zOW x b t ik fd ++ (zTW x (t 0) S l0 ++ (zTW x (t 1) T l1 ++ (zTW x (t 2) K l2 ++ (zPW x b tb tq ++ zSH x (b 5) (b 9) (bo 0) (so 0) (nn 0))))))) (C2 := (zSH x (b 7) (b 11) (bo 2) (so 2) (nn 2) ++ zSH x (b 8) (b 12) (bo 3) (so 3) (nn 3))) hx hb hml hown hts hl.1 hK hE hA lkX5_224 (c_X1_begin x (b 6) (b 10) (bo 1) (so 1) (nn 1) vb 0) ⟨Nat.le_of_ble_eq_true rfl, Nat.le_of_ble_eq_true rfl⟩ ⟨Nat.zero_le _, Nat.zero_le _⟩ hw 0 0 rfl rfl rfl rfl (Nat.le_of_ble_eq_true rfl) dX5_sheet_77 (fun H locs hw => ?_)
                  have hw : zHw x A s.heap (zHW x b t S l0 T l1 K l2 ik fd tb tq (upd bo 1 vb) (upd so 1 0) (zVL nn 1 (fun _ => 0))) H locs := hw
                  refine lv_aload hx hb dX5_sheet_80 (lv_at hl 0 rfl) ?_
                  refine gfX5_227 hx hb hown hts hK hw 34 rfl rfl dX5_sheet_82 ?_
                  exact zFG.iret hx hb hr hlocks hQ hw rfl dX5_sheet_85 (by rw [show zm_sheet bo so nn fd 1 vb vn = ((upd so 1 0) 1, upd bo 1 vb, upd so 1 0, zVL nn 1 (fun _ => 0), fd) from (by unfold zm_sheet; rw [if_pos ⟨by decide, (by first | exact Or.inl c13 | exact Or.inr (Or.inl c19) | exact Or.inr (Or.inr (Or.inl c25)) | exact Or.inr (Or.inr (Or.inr c31)))⟩, if_neg (Int32.not_lt.mpr c42), if_neg (Int32.not_lt.mpr c55)]; first | (rw [if_pos c69]; rfl) | (rw [if_neg c69]; rfl))]; exact ⟨rfl, rfl⟩)
              · refine lv_aload_n hx hb dX5_sheet_58 rfl (lv_at hl 1 rfl) ?_
                refine lv_ldc (v := (-1000000001)) hx hb hown (hts _ ckX5_51) dX5_sheet_59 ?_
                refine zcVwi (r := (-1000000001)) hx hb hml hown hts hl.1 hK hE hA lkX5_52 (c_X5_found x b t S l0 T l1 K l2 ik fd tb tq bo so nn (-1000000001) 0 (by decide) (by decide)) ⟨Nat.le_of_ble_eq_true rfl, Nat.le_of_ble_eq_true rfl⟩ ⟨Nat.zero_le _, Nat.zero_le _⟩ hw 0 3 rfl rfl rfl rfl (Nat.le_of_ble_eq_true rfl) dX5_sheet_61 (fun H locs hw => ?_)
                have hw : zHw x A s.heap (zHW x b t S l0 T l1 K l2 ik (upd fd 0 (fd 0 + 1)) tb tq bo so nn) H locs := hw
                exact zFG.iret hx hb hr hlocks hQ hw rfl dX5_sheet_64 (by rw [show zm_sheet bo so nn fd 1 vb vn = ((-1000000001), bo, so, nn, zFd fd 0) from (by unfold zm_sheet; rw [if_pos ⟨by decide, (by first | exact Or.inl c13 | exact Or.inr (Or.inl c19) | exact Or.inr (Or.inr (Or.inl c25)) | exact Or.inr (Or.inr (Or.inr c31)))⟩, if_neg (Int32.not_lt.mpr c42), if_pos (Int32.not_le.mp c55)])]; exact ⟨rfl, rfl⟩)
            · refine lv_aload_n hx hb dX5_sheet_45 rfl (lv_at hl 1 rfl) ?_
              refine lv_ldc (v := (-1000000007)) hx hb hown (hts _ ckX5_223) dX5_sheet_46 ?_
              refine zcVwi (r := (-1000000007)) hx hb hml hown hts hl.1 hK hE hA lkX5_52 (c_X5_found x b t S l0 T l1 K l2 ik fd tb tq bo so nn (-1000000007) 6 (by decide) (by decide)) ⟨Nat.le_of_ble_eq_true rfl, Nat.le_of_ble_eq_true rfl⟩ ⟨Nat.zero_le _, Nat.zero_le _⟩ hw 0 3 rfl rfl rfl rfl (Nat.le_of_ble_eq_true rfl) dX5_sheet_48 (fun H locs hw => ?_)
              have hw : zHw x A s.heap (zHW x b t S l0 T l1 K l2 ik (upd fd 6 (fd 6 + 1)) tb tq bo so nn) H locs := hw
              exact zFG.iret hx hb hr hlocks hQ hw rfl dX5_sheet_51 (by rw [show zm_sheet bo so nn fd 1 vb vn = ((-1000000007), bo, so, nn, zFd fd 6) from (by unfold zm_sheet; rw [if_pos ⟨by decide, (by first | exact Or.inl c13 | exact Or.inr (Or.inl c19) | exact Or.inr (Or.inr (Or.inl c25)) | exact Or.inr (Or.inr (Or.inr c31)))⟩, if_pos (Int32.not_le.mp c42)])]; exact ⟨rfl, rfl⟩)
          · refine lv_aload_n hx hb dX5_sheet_34 rfl (lv_at hl 1 rfl) ?_
            refine lv_ldc (v := (-1000000001)) hx hb hown (hts _ ckX5_51) dX5_sheet_35 ?_
            refine zcVwi (r := (-1000000001)) hx hb hml hown hts hl.1 hK hE hA lkX5_52 (c_X5_found x b t S l0 T l1 K l2 ik fd tb tq bo so nn (-1000000001) 0 (by decide) (by decide)) ⟨Nat.le_of_ble_eq_true rfl, Nat.le_of_ble_eq_true rfl⟩ ⟨Nat.zero_le _, Nat.zero_le _⟩ hw 0 3 rfl rfl rfl rfl (Nat.le_of_ble_eq_true rfl) dX5_sheet_37 (fun H locs hw => ?_)
            have hw : zHw x A s.heap (zHW x b t S l0 T l1 K l2 ik (upd fd 0 (fd 0 + 1)) tb tq bo so nn) H locs := hw
            exact zFG.iret hx hb hr hlocks hQ hw rfl dX5_sheet_40 (by rw [show zm_sheet bo so nn fd 1 vb vn = ((-1000000001), bo, so, nn, zFd fd 0) from (by unfold zm_sheet; first | rw [if_neg (fun h => hno h.1)] | rw [if_neg (fun h => by rcases h.2 with q | q | q | q; exact c13 q; exact c19 q; exact c25 q; exact c31 q)])]; exact ⟨rfl, rfl⟩)
  · refine lv_aload_n hx hb dX5_sheet_0 rfl (lv_at hl 0 rfl) ?_
    refine lv_iload_n hx hb dX5_sheet_1 rfl (lv_at hl 1 rfl) ?_
    refine zcVwa hx hb hml hown hts hl.1 hK hE hA lkX5_219 (c_X5_sheetAt_2 x b t S l0 T l1 K l2 ik fd tb tq bo so nn) ⟨Nat.le_of_ble_eq_true rfl, Nat.le_of_ble_eq_true rfl⟩ ⟨Nat.zero_le _, Nat.zero_le _⟩ hw 0 3 rfl rfl rfl rfl (Nat.le_of_ble_eq_true rfl) dX5_sheet_2 (fun H locs hw => ?_)
    have hw : zHw x A s.heap (zHW x b t S l0 T l1 K l2 ik fd tb tq bo so nn) H locs := hw
    refine lv_astore (lv' := [(4, .ref (b 7)), (0, .ref (b 0)), (1, .int 2), (2, .int vb), (3, .int vn)]) hx hb dX5_sheet_5 hl (by decide) rfl (fun ls hl => ?_)
    refine lv_aload hx hb dX5_sheet_7 (lv_at hl 0 rfl) ?_
    refine lv_ifnull hx hb dX5_sheet_9 ?_
    refine lv_iload_n hx hb dX5_sheet_12 rfl (lv_at hl 3 rfl) ?_
    refine lv_if_eq (tgt := 41) hx hb dX5_sheet_13 (by decide) (fun c13 => ?_) (fun c13 => ?_)
    · refine lv_iload_n hx hb dX5_sheet_41 rfl (lv_at hl 4 rfl) ?_
      refine lv_if_ge (tgt := 52) hx hb dX5_sheet_42 (by decide) (fun c42 => ?_) (fun c42 => ?_)
      · refine lv_iload_n hx hb dX5_sheet_52 rfl (lv_at hl 4 rfl) ?_
        refine lv_bipush (v := 40) hx hb dX5_sheet_53 (by decide) ?_
        refine lv_icmp_le (tgt := 65) hx hb dX5_sheet_55 (by decide) (fun c55 => ?_) (fun c55 => ?_)
        · refine lv_aload hx hb dX5_sheet_65 (lv_at hl 0 rfl) ?_
          refine lv_iload_n hx hb dX5_sheet_67 rfl (lv_at hl 3 rfl) ?_
          refine lv_iload_n hx hb dX5_sheet_68 rfl (lv_at hl 3 rfl) ?_
          refine lv_if_ne (tgt := 76) hx hb dX5_sheet_69 (by decide) (fun c69 => ?_) (fun c69 => ?_)
          · refine lv_iload_n hx hb dX5_sheet_76 rfl (lv_at hl 4 rfl) ?_
            refine zcVmv (C1 := (zOW x b t ik fd ++ (zTW x (t 0) S l0 ++ (zTW x (t 1) T l1 ++ (zTW x (t 2) K l2 ++ (zPW x b tb tq ++ (zSH x (b 5) (b 9) (bo 0) (so 0) (nn 0) ++ zSH x (b 6) (b 10) (bo 1) (so 1) (nn 1)))))))) (C2 := (zSH x (b 8) (b 12) (bo 3) (so 3) (nn 3))) hx hb hml hown hts hl.1 hK hE hA lkX5_224 (c_X1_begin x (b 7) (b 11) (bo 2) (so 2) (nn 2) vb vn) ⟨Nat.le_of_ble_eq_true rfl, Nat.le_of_ble_eq_true rfl⟩ ⟨Nat.zero_le _, Nat.zero_le _⟩ hw 0 0 rfl rfl rfl rfl (Nat.le_of_ble_eq_true rfl) dX5_sheet_77 (fun H locs hw => ?_)
            have hw : zHw x A s.heap (zHW x b t S l0 T l1 K l2 ik fd tb tq (upd bo 2 vb) (upd so 2 vn) (zVL nn 2 (fun _ => 0))) H locs := hw
            refine lv_aload hx hb dX5_sheet_80 (lv_at hl 0 rfl) ?_
            refine gfX5_227 hx hb hown hts hK hw 36 rfl rfl dX5_sheet_82 ?_
            exact zFG.iret hx hb hr hlocks hQ hw rfl dX5_sheet_85 (by rw [show zm_sheet bo so nn fd 2 vb vn = ((upd so 2 vn) 2, upd bo 2 vb, upd so 2 vn, zVL nn 2 (fun _ => 0), fd) from (by unfold zm_sheet; rw [if_pos ⟨by decide, (by first | exact Or.inl c13 | exact Or.inr (Or.inl c19) | exact Or.inr (Or.inr (Or.inl c25)) | exact Or.inr (Or.inr (Or.inr c31)))⟩, if_neg (Int32.not_lt.mpr c42), if_neg (Int32.not_lt.mpr c55)]; first | (rw [if_pos c69]; rfl) | (rw [if_neg c69]; rfl))]; exact ⟨rfl, rfl⟩)
          · refine lv_iconst (v := 0) hx hb dX5_sheet_72 (by decide) ?_
            refine lv_goto (tgt := 77) hx hb dX5_sheet_73 (by decide) ?_
            refine zcVmv (C1 := (zOW x b t ik fd ++ (zTW x (t 0) S l0 ++ (zTW x (t 1) T l1 ++ (zTW x (t 2) K l2 ++ (zPW x b tb tq ++ (zSH x (b 5) (b 9) (bo 0) (so 0) (nn 0) ++ zSH x (b 6) (b 10) (bo 1) (so 1) (nn 1)))))))) (C2 := (zSH x (b 8) (b 12) (bo 3) (so 3) (nn 3))) hx hb hml hown hts hl.1 hK hE hA lkX5_224 (c_X1_begin x (b 7) (b 11) (bo 2) (so 2) (nn 2) vb 0) ⟨Nat.le_of_ble_eq_true rfl, Nat.le_of_ble_eq_true rfl⟩ ⟨Nat.zero_le _, Nat.zero_le _⟩ hw 0 0 rfl rfl rfl rfl (Nat.le_of_ble_eq_true rfl) dX5_sheet_77 (fun H locs hw => ?_)
            have hw : zHw x A s.heap (zHW x b t S l0 T l1 K l2 ik fd tb tq (upd bo 2 vb) (upd so 2 0) (zVL nn 2 (fun _ => 0))) H locs := hw
            refine lv_aload hx hb dX5_sheet_80 (lv_at hl 0 rfl) ?_
            refine gfX5_227 hx hb hown hts hK hw 36 rfl rfl dX5_sheet_82 ?_
            exact zFG.iret hx hb hr hlocks hQ hw rfl dX5_sheet_85 (by rw [show zm_sheet bo so nn fd 2 vb vn = ((upd so 2 0) 2, upd bo 2 vb, upd so 2 0, zVL nn 2 (fun _ => 0), fd) from (by unfold zm_sheet; rw [if_pos ⟨by decide, (by first | exact Or.inl c13 | exact Or.inr (Or.inl c19) | exact Or.inr (Or.inr (Or.inl c25)) | exact Or.inr (Or.inr (Or.inr c31)))⟩, if_neg (Int32.not_lt.mpr c42), if_neg (Int32.not_lt.mpr c55)]; first | (rw [if_pos c69]; rfl) | (rw [if_neg c69]; rfl))]; exact ⟨rfl, rfl⟩)
        · refine lv_aload_n hx hb dX5_sheet_58 rfl (lv_at hl 1 rfl) ?_
          refine lv_ldc (v := (-1000000001)) hx hb hown (hts _ ckX5_51) dX5_sheet_59 ?_
          refine zcVwi (r := (-1000000001)) hx hb hml hown hts hl.1 hK hE hA lkX5_52 (c_X5_found x b t S l0 T l1 K l2 ik fd tb tq bo so nn (-1000000001) 0 (by decide) (by decide)) ⟨Nat.le_of_ble_eq_true rfl, Nat.le_of_ble_eq_true rfl⟩ ⟨Nat.zero_le _, Nat.zero_le _⟩ hw 0 3 rfl rfl rfl rfl (Nat.le_of_ble_eq_true rfl) dX5_sheet_61 (fun H locs hw => ?_)
          have hw : zHw x A s.heap (zHW x b t S l0 T l1 K l2 ik (upd fd 0 (fd 0 + 1)) tb tq bo so nn) H locs := hw
          exact zFG.iret hx hb hr hlocks hQ hw rfl dX5_sheet_64 (by rw [show zm_sheet bo so nn fd 2 vb vn = ((-1000000001), bo, so, nn, zFd fd 0) from (by unfold zm_sheet; rw [if_pos ⟨by decide, (by first | exact Or.inl c13 | exact Or.inr (Or.inl c19) | exact Or.inr (Or.inr (Or.inl c25)) | exact Or.inr (Or.inr (Or.inr c31)))⟩, if_neg (Int32.not_lt.mpr c42), if_pos (Int32.not_le.mp c55)])]; exact ⟨rfl, rfl⟩)
      · refine lv_aload_n hx hb dX5_sheet_45 rfl (lv_at hl 1 rfl) ?_
        refine lv_ldc (v := (-1000000007)) hx hb hown (hts _ ckX5_223) dX5_sheet_46 ?_
        refine zcVwi (r := (-1000000007)) hx hb hml hown hts hl.1 hK hE hA lkX5_52 (c_X5_found x b t S l0 T l1 K l2 ik fd tb tq bo so nn (-1000000007) 6 (by decide) (by decide)) ⟨Nat.le_of_ble_eq_true rfl, Nat.le_of_ble_eq_true rfl⟩ ⟨Nat.zero_le _, Nat.zero_le _⟩ hw 0 3 rfl rfl rfl rfl (Nat.le_of_ble_eq_true rfl) dX5_sheet_48 (fun H locs hw => ?_)
        have hw : zHw x A s.heap (zHW x b t S l0 T l1 K l2 ik (upd fd 6 (fd 6 + 1)) tb tq bo so nn) H locs := hw
        exact zFG.iret hx hb hr hlocks hQ hw rfl dX5_sheet_51 (by rw [show zm_sheet bo so nn fd 2 vb vn = ((-1000000007), bo, so, nn, zFd fd 6) from (by unfold zm_sheet; rw [if_pos ⟨by decide, (by first | exact Or.inl c13 | exact Or.inr (Or.inl c19) | exact Or.inr (Or.inr (Or.inl c25)) | exact Or.inr (Or.inr (Or.inr c31)))⟩, if_pos (Int32.not_le.mp c42)])]; exact ⟨rfl, rfl⟩)
    · refine lv_iload_n hx hb dX5_sheet_16 rfl (lv_at hl 3 rfl) ?_
      refine lv_bipush (v := 8) hx hb dX5_sheet_17 (by decide) ?_
      refine lv_icmp_eq (tgt := 41) hx hb dX5_sheet_19 (by decide) (fun c19 => ?_) (fun c19 => ?_)
      · refine lv_iload_n hx hb dX5_sheet_41 rfl (lv_at hl 4 rfl) ?_
        refine lv_if_ge (tgt := 52) hx hb dX5_sheet_42 (by decide) (fun c42 => ?_) (fun c42 => ?_)
        · refine lv_iload_n hx hb dX5_sheet_52 rfl (lv_at hl 4 rfl) ?_
          refine lv_bipush (v := 40) hx hb dX5_sheet_53 (by decide) ?_
          refine lv_icmp_le (tgt := 65) hx hb dX5_sheet_55 (by decide) (fun c55 => ?_) (fun c55 => ?_)
          · refine lv_aload hx hb dX5_sheet_65 (lv_at hl 0 rfl) ?_
            refine lv_iload_n hx hb dX5_sheet_67 rfl (lv_at hl 3 rfl) ?_
            refine lv_iload_n hx hb dX5_sheet_68 rfl (lv_at hl 3 rfl) ?_
            refine lv_if_ne (tgt := 76) hx hb dX5_sheet_69 (by decide) (fun c69 => ?_) (fun c69 => ?_)
            · refine lv_iload_n hx hb dX5_sheet_76 rfl (lv_at hl 4 rfl) ?_
              refine zcVmv (C1 := (zOW x b t ik fd ++ (zTW x (t 0) S l0 ++ (zTW x (t 1) T l1 ++ (zTW x (t 2) K l2 ++ (zPW x b tb tq ++ (zSH x (b 5) (b 9) (bo 0) (so 0) (nn 0) ++ zSH x (b 6) (b 10) (bo 1) (so 1) (nn 1)))))))) (C2 := (zSH x (b 8) (b 12) (bo 3) (so 3) (nn 3))) hx hb hml hown hts hl.1 hK hE hA lkX5_224 (c_X1_begin x (b 7) (b 11) (bo 2) (so 2) (nn 2) vb vn) ⟨Nat.le_of_ble_eq_true rfl, Nat.le_of_ble_eq_true rfl⟩ ⟨Nat.zero_le _, Nat.zero_le _⟩ hw 0 0 rfl rfl rfl rfl (Nat.le_of_ble_eq_true rfl) dX5_sheet_77 (fun H locs hw => ?_)
              have hw : zHw x A s.heap (zHW x b t S l0 T l1 K l2 ik fd tb tq (upd bo 2 vb) (upd so 2 vn) (zVL nn 2 (fun _ => 0))) H locs := hw
              refine lv_aload hx hb dX5_sheet_80 (lv_at hl 0 rfl) ?_
              refine gfX5_227 hx hb hown hts hK hw 36 rfl rfl dX5_sheet_82 ?_
              exact zFG.iret hx hb hr hlocks hQ hw rfl dX5_sheet_85 (by rw [show zm_sheet bo so nn fd 2 vb vn = ((upd so 2 vn) 2, upd bo 2 vb, upd so 2 vn, zVL nn 2 (fun _ => 0), fd) from (by unfold zm_sheet; rw [if_pos ⟨by decide, (by first | exact Or.inl c13 | exact Or.inr (Or.inl c19) | exact Or.inr (Or.inr (Or.inl c25)) | exact Or.inr (Or.inr (Or.inr c31)))⟩, if_neg (Int32.not_lt.mpr c42), if_neg (Int32.not_lt.mpr c55)]; first | (rw [if_pos c69]; rfl) | (rw [if_neg c69]; rfl))]; exact ⟨rfl, rfl⟩)
            · refine lv_iconst (v := 0) hx hb dX5_sheet_72 (by decide) ?_
              refine lv_goto (tgt := 77) hx hb dX5_sheet_73 (by decide) ?_
              refine zcVmv (C1 := (zOW x b t ik fd ++ (zTW x (t 0) S l0 ++ (zTW x (t 1) T l1 ++ (zTW x (t 2) K l2 ++ (zPW x b tb tq ++ (zSH x (b 5) (b 9) (bo 0) (so 0) (nn 0) ++ zSH x (b 6) (b 10) (bo 1) (so 1) (nn 1)))))))) (C2 := (zSH x (b 8) (b 12) (bo 3) (so 3) (nn 3))) hx hb hml hown hts hl.1 hK hE hA lkX5_224 (c_X1_begin x (b 7) (b 11) (bo 2) (so 2) (nn 2) vb 0) ⟨Nat.le_of_ble_eq_true rfl, Nat.le_of_ble_eq_true rfl⟩ ⟨Nat.zero_le _, Nat.zero_le _⟩ hw 0 0 rfl rfl rfl rfl (Nat.le_of_ble_eq_true rfl) dX5_sheet_77 (fun H locs hw => ?_)
              have hw : zHw x A s.heap (zHW x b t S l0 T l1 K l2 ik fd tb tq (upd bo 2 vb) (upd so 2 0) (zVL nn 2 (fun _ => 0))) H locs := hw
              refine lv_aload hx hb dX5_sheet_80 (lv_at hl 0 rfl) ?_
              refine gfX5_227 hx hb hown hts hK hw 36 rfl rfl dX5_sheet_82 ?_
              exact zFG.iret hx hb hr hlocks hQ hw rfl dX5_sheet_85 (by rw [show zm_sheet bo so nn fd 2 vb vn = ((upd so 2 0) 2, upd bo 2 vb, upd so 2 0, zVL nn 2 (fun _ => 0), fd) from (by unfold zm_sheet; rw [if_pos ⟨by decide, (by first | exact Or.inl c13 | exact Or.inr (Or.inl c19) | exact Or.inr (Or.inr (Or.inl c25)) | exact Or.inr (Or.inr (Or.inr c31)))⟩, if_neg (Int32.not_lt.mpr c42), if_neg (Int32.not_lt.mpr c55)]; first | (rw [if_pos c69]; rfl) | (rw [if_neg c69]; rfl))]; exact ⟨rfl, rfl⟩)
          · refine lv_aload_n hx hb dX5_sheet_58 rfl (lv_at hl 1 rfl) ?_
            refine lv_ldc (v := (-1000000001)) hx hb hown (hts _ ckX5_51) dX5_sheet_59 ?_
            refine zcVwi (r := (-1000000001)) hx hb hml hown hts hl.1 hK hE hA lkX5_52 (c_X5_found x b t S l0 T l1 K l2 ik fd tb tq bo so nn (-1000000001) 0 (by decide) (by decide)) ⟨Nat.le_of_ble_eq_true rfl, Nat.le_of_ble_eq_true rfl⟩ ⟨Nat.zero_le _, Nat.zero_le _⟩ hw 0 3 rfl rfl rfl rfl (Nat.le_of_ble_eq_true rfl) dX5_sheet_61 (fun H locs hw => ?_)
            have hw : zHw x A s.heap (zHW x b t S l0 T l1 K l2 ik (upd fd 0 (fd 0 + 1)) tb tq bo so nn) H locs := hw
            exact zFG.iret hx hb hr hlocks hQ hw rfl dX5_sheet_64 (by rw [show zm_sheet bo so nn fd 2 vb vn = ((-1000000001), bo, so, nn, zFd fd 0) from (by unfold zm_sheet; rw [if_pos ⟨by decide, (by first | exact Or.inl c13 | exact Or.inr (Or.inl c19) | exact Or.inr (Or.inr (Or.inl c25)) | exact Or.inr (Or.inr (Or.inr c31)))⟩, if_neg (Int32.not_lt.mpr c42), if_pos (Int32.not_le.mp c55)])]; exact ⟨rfl, rfl⟩)
        · refine lv_aload_n hx hb dX5_sheet_45 rfl (lv_at hl 1 rfl) ?_
          refine lv_ldc (v := (-1000000007)) hx hb hown (hts _ ckX5_223) dX5_sheet_46 ?_
          refine zcVwi (r := (-1000000007)) hx hb hml hown hts hl.1 hK hE hA lkX5_52 (c_X5_found x b t S l0 T l1 K l2 ik fd tb tq bo so nn (-1000000007) 6 (by decide) (by decide)) ⟨Nat.le_of_ble_eq_true rfl, Nat.le_of_ble_eq_true rfl⟩ ⟨Nat.zero_le _, Nat.zero_le _⟩ hw 0 3 rfl rfl rfl rfl (Nat.le_of_ble_eq_true rfl) dX5_sheet_48 (fun H locs hw => ?_)
          have hw : zHw x A s.heap (zHW x b t S l0 T l1 K l2 ik (upd fd 6 (fd 6 + 1)) tb tq bo so nn) H locs := hw
          exact zFG.iret hx hb hr hlocks hQ hw rfl dX5_sheet_51 (by rw [show zm_sheet bo so nn fd 2 vb vn = ((-1000000007), bo, so, nn, zFd fd 6) from (by unfold zm_sheet; rw [if_pos ⟨by decide, (by first | exact Or.inl c13 | exact Or.inr (Or.inl c19) | exact Or.inr (Or.inr (Or.inl c25)) | exact Or.inr (Or.inr (Or.inr c31)))⟩, if_pos (Int32.not_le.mp c42)])]; exact ⟨rfl, rfl⟩)
      · refine lv_iload_n hx hb dX5_sheet_22 rfl (lv_at hl 3 rfl) ?_
        refine lv_bipush (v := 16) hx hb dX5_sheet_23 (by decide) ?_
        refine lv_icmp_eq (tgt := 41) hx hb dX5_sheet_25 (by decide) (fun c25 => ?_) (fun c25 => ?_)
        · refine lv_iload_n hx hb dX5_sheet_41 rfl (lv_at hl 4 rfl) ?_
          refine lv_if_ge (tgt := 52) hx hb dX5_sheet_42 (by decide) (fun c42 => ?_) (fun c42 => ?_)
          · refine lv_iload_n hx hb dX5_sheet_52 rfl (lv_at hl 4 rfl) ?_
            refine lv_bipush (v := 40) hx hb dX5_sheet_53 (by decide) ?_
            refine lv_icmp_le (tgt := 65) hx hb dX5_sheet_55 (by decide) (fun c55 => ?_) (fun c55 => ?_)
            · refine lv_aload hx hb dX5_sheet_65 (lv_at hl 0 rfl) ?_
              refine lv_iload_n hx hb dX5_sheet_67 rfl (lv_at hl 3 rfl) ?_
              refine lv_iload_n hx hb dX5_sheet_68 rfl (lv_at hl 3 rfl) ?_
              refine lv_if_ne (tgt := 76) hx hb dX5_sheet_69 (by decide) (fun c69 => ?_) (fun c69 => ?_)
              · refine lv_iload_n hx hb dX5_sheet_76 rfl (lv_at hl 4 rfl) ?_
                refine zcVmv (C1 := (zOW x b t ik fd ++ (zTW x (t 0) S l0 ++ (zTW x (t 1) T l1 ++ (zTW x (t 2) K l2 ++ (zPW x b tb tq ++ (zSH x (b 5) (b 9) (bo 0) (so 0) (nn 0) ++ zSH x (b 6) (b 10) (bo 1) (so 1) (nn 1)))))))) (C2 := (zSH x (b 8) (b 12) (bo 3) (so 3) (nn 3))) hx hb hml hown hts hl.1 hK hE hA lkX5_224 (c_X1_begin x (b 7) (b 11) (bo 2) (so 2) (nn 2) vb vn) ⟨Nat.le_of_ble_eq_true rfl, Nat.le_of_ble_eq_true rfl⟩ ⟨Nat.zero_le _, Nat.zero_le _⟩ hw 0 0 rfl rfl rfl rfl (Nat.le_of_ble_eq_true rfl) dX5_sheet_77 (fun H locs hw => ?_)
                have hw : zHw x A s.heap (zHW x b t S l0 T l1 K l2 ik fd tb tq (upd bo 2 vb) (upd so 2 vn) (zVL nn 2 (fun _ => 0))) H locs := hw
                refine lv_aload hx hb dX5_sheet_80 (lv_at hl 0 rfl) ?_
                refine gfX5_227 hx hb hown hts hK hw 36 rfl rfl dX5_sheet_82 ?_
                exact zFG.iret hx hb hr hlocks hQ hw rfl dX5_sheet_85 (by rw [show zm_sheet bo so nn fd 2 vb vn = ((upd so 2 vn) 2, upd bo 2 vb, upd so 2 vn, zVL nn 2 (fun _ => 0), fd) from (by unfold zm_sheet; rw [if_pos ⟨by decide, (by first | exact Or.inl c13 | exact Or.inr (Or.inl c19) | exact Or.inr (Or.inr (Or.inl c25)) | exact Or.inr (Or.inr (Or.inr c31)))⟩, if_neg (Int32.not_lt.mpr c42), if_neg (Int32.not_lt.mpr c55)]; first | (rw [if_pos c69]; rfl) | (rw [if_neg c69]; rfl))]; exact ⟨rfl, rfl⟩)
              · refine lv_iconst (v := 0) hx hb dX5_sheet_72 (by decide) ?_
                refine lv_goto (tgt := 77) hx hb dX5_sheet_73 (by decide) ?_
                refine zcVmv (C1 := (zOW x b t ik fd ++ (zTW x (t 0) S l0 ++ (zTW x (t 1) T l1 ++ (zTW x (t 2) K l2 ++ (zPW x b tb tq ++ (zSH x (b 5) (b 9) (bo 0) (so 0) (nn 0) ++ zSH x (b 6) (b 10) (bo 1) (so 1) (nn 1)))))))) (C2 := (zSH x (b 8) (b 12) (bo 3) (so 3) (nn 3))) hx hb hml hown hts hl.1 hK hE hA lkX5_224 (c_X1_begin x (b 7) (b 11) (bo 2) (so 2) (nn 2) vb 0) ⟨Nat.le_of_ble_eq_true rfl, Nat.le_of_ble_eq_true rfl⟩ ⟨Nat.zero_le _, Nat.zero_le _⟩ hw 0 0 rfl rfl rfl rfl (Nat.le_of_ble_eq_true rfl) dX5_sheet_77 (fun H locs hw => ?_)
                have hw : zHw x A s.heap (zHW x b t S l0 T l1 K l2 ik fd tb tq (upd bo 2 vb) (upd so 2 0) (zVL nn 2 (fun _ => 0))) H locs := hw
                refine lv_aload hx hb dX5_sheet_80 (lv_at hl 0 rfl) ?_
                refine gfX5_227 hx hb hown hts hK hw 36 rfl rfl dX5_sheet_82 ?_
                exact zFG.iret hx hb hr hlocks hQ hw rfl dX5_sheet_85 (by rw [show zm_sheet bo so nn fd 2 vb vn = ((upd so 2 0) 2, upd bo 2 vb, upd so 2 0, zVL nn 2 (fun _ => 0), fd) from (by unfold zm_sheet; rw [if_pos ⟨by decide, (by first | exact Or.inl c13 | exact Or.inr (Or.inl c19) | exact Or.inr (Or.inr (Or.inl c25)) | exact Or.inr (Or.inr (Or.inr c31)))⟩, if_neg (Int32.not_lt.mpr c42), if_neg (Int32.not_lt.mpr c55)]; first | (rw [if_pos c69]; rfl) | (rw [if_neg c69]; rfl))]; exact ⟨rfl, rfl⟩)
            · refine lv_aload_n hx hb dX5_sheet_58 rfl (lv_at hl 1 rfl) ?_
              refine lv_ldc (v := (-1000000001)) hx hb hown (hts _ ckX5_51) dX5_sheet_59 ?_
              refine zcVwi (r := (-1000000001)) hx hb hml hown hts hl.1 hK hE hA lkX5_52 (c_X5_found x b t S l0 T l1 K l2 ik fd tb tq bo so nn (-1000000001) 0 (by decide) (by decide)) ⟨Nat.le_of_ble_eq_true rfl, Nat.le_of_ble_eq_true rfl⟩ ⟨Nat.zero_le _, Nat.zero_le _⟩ hw 0 3 rfl rfl rfl rfl (Nat.le_of_ble_eq_true rfl) dX5_sheet_61 (fun H locs hw => ?_)
              have hw : zHw x A s.heap (zHW x b t S l0 T l1 K l2 ik (upd fd 0 (fd 0 + 1)) tb tq bo so nn) H locs := hw
              exact zFG.iret hx hb hr hlocks hQ hw rfl dX5_sheet_64 (by rw [show zm_sheet bo so nn fd 2 vb vn = ((-1000000001), bo, so, nn, zFd fd 0) from (by unfold zm_sheet; rw [if_pos ⟨by decide, (by first | exact Or.inl c13 | exact Or.inr (Or.inl c19) | exact Or.inr (Or.inr (Or.inl c25)) | exact Or.inr (Or.inr (Or.inr c31)))⟩, if_neg (Int32.not_lt.mpr c42), if_pos (Int32.not_le.mp c55)])]; exact ⟨rfl, rfl⟩)
          · refine lv_aload_n hx hb dX5_sheet_45 rfl (lv_at hl 1 rfl) ?_
            refine lv_ldc (v := (-1000000007)) hx hb hown (hts _ ckX5_223) dX5_sheet_46 ?_
            refine zcVwi (r := (-1000000007)) hx hb hml hown hts hl.1 hK hE hA lkX5_52 (c_X5_found x b t S l0 T l1 K l2 ik fd tb tq bo so nn (-1000000007) 6 (by decide) (by decide)) ⟨Nat.le_of_ble_eq_true rfl, Nat.le_of_ble_eq_true rfl⟩ ⟨Nat.zero_le _, Nat.zero_le _⟩ hw 0 3 rfl rfl rfl rfl (Nat.le_of_ble_eq_true rfl) dX5_sheet_48 (fun H locs hw => ?_)
            have hw : zHw x A s.heap (zHW x b t S l0 T l1 K l2 ik (upd fd 6 (fd 6 + 1)) tb tq bo so nn) H locs := hw
            exact zFG.iret hx hb hr hlocks hQ hw rfl dX5_sheet_51 (by rw [show zm_sheet bo so nn fd 2 vb vn = ((-1000000007), bo, so, nn, zFd fd 6) from (by unfold zm_sheet; rw [if_pos ⟨by decide, (by first | exact Or.inl c13 | exact Or.inr (Or.inl c19) | exact Or.inr (Or.inr (Or.inl c25)) | exact Or.inr (Or.inr (Or.inr c31)))⟩, if_pos (Int32.not_le.mp c42)])]; exact ⟨rfl, rfl⟩)
        · refine lv_iload_n hx hb dX5_sheet_28 rfl (lv_at hl 3 rfl) ?_
          refine lv_bipush (v := 64) hx hb dX5_sheet_29 (by decide) ?_
          refine lv_icmp_eq (tgt := 41) hx hb dX5_sheet_31 (by decide) (fun c31 => ?_) (fun c31 => ?_)
          · refine lv_iload_n hx hb dX5_sheet_41 rfl (lv_at hl 4 rfl) ?_
            refine lv_if_ge (tgt := 52) hx hb dX5_sheet_42 (by decide) (fun c42 => ?_) (fun c42 => ?_)
            · refine lv_iload_n hx hb dX5_sheet_52 rfl (lv_at hl 4 rfl) ?_
              refine lv_bipush (v := 40) hx hb dX5_sheet_53 (by decide) ?_
              refine lv_icmp_le (tgt := 65) hx hb dX5_sheet_55 (by decide) (fun c55 => ?_) (fun c55 => ?_)
              · refine lv_aload hx hb dX5_sheet_65 (lv_at hl 0 rfl) ?_
                refine lv_iload_n hx hb dX5_sheet_67 rfl (lv_at hl 3 rfl) ?_
                refine lv_iload_n hx hb dX5_sheet_68 rfl (lv_at hl 3 rfl) ?_
                refine lv_if_ne (tgt := 76) hx hb dX5_sheet_69 (by decide) (fun c69 => ?_) (fun c69 => ?_)
                · refine lv_iload_n hx hb dX5_sheet_76 rfl (lv_at hl 4 rfl) ?_
                  refine zcVmv (C1 := (zOW x b t ik fd ++ (zTW x (t 0) S l0 ++ (zTW x (t 1) T l1 ++ (zTW x (t 2) K l2 ++ (zPW x b tb tq ++ (zSH x (b 5) (b 9) (bo 0) (so 0) (nn 0) ++ zSH x (b 6) (b 10) (bo 1) (so 1) (nn 1)))))))) (C2 := (zSH x (b 8) (b 12) (bo 3) (so 3) (nn 3))) hx hb hml hown hts hl.1 hK hE hA lkX5_224 (c_X1_begin x (b 7) (b 11) (bo 2) (so 2) (nn 2) vb vn) ⟨Nat.le_of_ble_eq_true rfl, Nat.le_of_ble_eq_true rfl⟩ ⟨Nat.zero_le _, Nat.zero_le _⟩ hw 0 0 rfl rfl rfl rfl (Nat.le_of_ble_eq_true rfl) dX5_sheet_77 (fun H locs hw => ?_)
                  have hw : zHw x A s.heap (zHW x b t S l0 T l1 K l2 ik fd tb tq (upd bo 2 vb) (upd so 2 vn) (zVL nn 2 (fun _ => 0))) H locs := hw
                  refine lv_aload hx hb dX5_sheet_80 (lv_at hl 0 rfl) ?_
                  refine gfX5_227 hx hb hown hts hK hw 36 rfl rfl dX5_sheet_82 ?_
                  exact zFG.iret hx hb hr hlocks hQ hw rfl dX5_sheet_85 (by rw [show zm_sheet bo so nn fd 2 vb vn = ((upd so 2 vn) 2, upd bo 2 vb, upd so 2 vn, zVL nn 2 (fun _ => 0), fd) from (by unfold zm_sheet; rw [if_pos ⟨by decide, (by first | exact Or.inl c13 | exact Or.inr (Or.inl c19) | exact Or.inr (Or.inr (Or.inl c25)) | exact Or.inr (Or.inr (Or.inr c31)))⟩, if_neg (Int32.not_lt.mpr c42), if_neg (Int32.not_lt.mpr c55)]; first | (rw [if_pos c69]; rfl) | (rw [if_neg c69]; rfl))]; exact ⟨rfl, rfl⟩)
                · refine lv_iconst (v := 0) hx hb dX5_sheet_72 (by decide) ?_
                  refine lv_goto (tgt := 77) hx hb dX5_sheet_73 (by decide) ?_
                  refine zcVmv (C1 := (zOW x b t ik fd ++ (zTW x (t 0) S l0 ++ (zTW x (t 1) T l1 ++ (zTW x (t 2) K l2 ++ (zPW x b tb tq ++ (zSH x (b 5) (b 9) (bo 0) (so 0) (nn 0) ++ zSH x (b 6) (b 10) (bo 1) (so 1) (nn 1)))))))) (C2 := (zSH x (b 8) (b 12) (bo 3) (so 3) (nn 3))) hx hb hml hown hts hl.1 hK hE hA lkX5_224 (c_X1_begin x (b 7) (b 11) (bo 2) (so 2) (nn 2) vb 0) ⟨Nat.le_of_ble_eq_true rfl, Nat.le_of_ble_eq_true rfl⟩ ⟨Nat.zero_le _, Nat.zero_le _⟩ hw 0 0 rfl rfl rfl rfl (Nat.le_of_ble_eq_true rfl) dX5_sheet_77 (fun H locs hw => ?_)
                  have hw : zHw x A s.heap (zHW x b t S l0 T l1 K l2 ik fd tb tq (upd bo 2 vb) (upd so 2 0) (zVL nn 2 (fun _ => 0))) H locs := hw
                  refine lv_aload hx hb dX5_sheet_80 (lv_at hl 0 rfl) ?_
                  refine gfX5_227 hx hb hown hts hK hw 36 rfl rfl dX5_sheet_82 ?_
                  exact zFG.iret hx hb hr hlocks hQ hw rfl dX5_sheet_85 (by rw [show zm_sheet bo so nn fd 2 vb vn = ((upd so 2 0) 2, upd bo 2 vb, upd so 2 0, zVL nn 2 (fun _ => 0), fd) from (by unfold zm_sheet; rw [if_pos ⟨by decide, (by first | exact Or.inl c13 | exact Or.inr (Or.inl c19) | exact Or.inr (Or.inr (Or.inl c25)) | exact Or.inr (Or.inr (Or.inr c31)))⟩, if_neg (Int32.not_lt.mpr c42), if_neg (Int32.not_lt.mpr c55)]; first | (rw [if_pos c69]; rfl) | (rw [if_neg c69]; rfl))]; exact ⟨rfl, rfl⟩)
              · refine lv_aload_n hx hb dX5_sheet_58 rfl (lv_at hl 1 rfl) ?_
                refine lv_ldc (v := (-1000000001)) hx hb hown (hts _ ckX5_51) dX5_sheet_59 ?_
                refine zcVwi (r := (-1000000001)) hx hb hml hown hts hl.1 hK hE hA lkX5_52 (c_X5_found x b t S l0 T l1 K l2 ik fd tb tq bo so nn (-1000000001) 0 (by decide) (by decide)) ⟨Nat.le_of_ble_eq_true rfl, Nat.le_of_ble_eq_true rfl⟩ ⟨Nat.zero_le _, Nat.zero_le _⟩ hw 0 3 rfl rfl rfl rfl (Nat.le_of_ble_eq_true rfl) dX5_sheet_61 (fun H locs hw => ?_)
                have hw : zHw x A s.heap (zHW x b t S l0 T l1 K l2 ik (upd fd 0 (fd 0 + 1)) tb tq bo so nn) H locs := hw
                exact zFG.iret hx hb hr hlocks hQ hw rfl dX5_sheet_64 (by rw [show zm_sheet bo so nn fd 2 vb vn = ((-1000000001), bo, so, nn, zFd fd 0) from (by unfold zm_sheet; rw [if_pos ⟨by decide, (by first | exact Or.inl c13 | exact Or.inr (Or.inl c19) | exact Or.inr (Or.inr (Or.inl c25)) | exact Or.inr (Or.inr (Or.inr c31)))⟩, if_neg (Int32.not_lt.mpr c42), if_pos (Int32.not_le.mp c55)])]; exact ⟨rfl, rfl⟩)
            · refine lv_aload_n hx hb dX5_sheet_45 rfl (lv_at hl 1 rfl) ?_
              refine lv_ldc (v := (-1000000007)) hx hb hown (hts _ ckX5_223) dX5_sheet_46 ?_
              refine zcVwi (r := (-1000000007)) hx hb hml hown hts hl.1 hK hE hA lkX5_52 (c_X5_found x b t S l0 T l1 K l2 ik fd tb tq bo so nn (-1000000007) 6 (by decide) (by decide)) ⟨Nat.le_of_ble_eq_true rfl, Nat.le_of_ble_eq_true rfl⟩ ⟨Nat.zero_le _, Nat.zero_le _⟩ hw 0 3 rfl rfl rfl rfl (Nat.le_of_ble_eq_true rfl) dX5_sheet_48 (fun H locs hw => ?_)
              have hw : zHw x A s.heap (zHW x b t S l0 T l1 K l2 ik (upd fd 6 (fd 6 + 1)) tb tq bo so nn) H locs := hw
              exact zFG.iret hx hb hr hlocks hQ hw rfl dX5_sheet_51 (by rw [show zm_sheet bo so nn fd 2 vb vn = ((-1000000007), bo, so, nn, zFd fd 6) from (by unfold zm_sheet; rw [if_pos ⟨by decide, (by first | exact Or.inl c13 | exact Or.inr (Or.inl c19) | exact Or.inr (Or.inr (Or.inl c25)) | exact Or.inr (Or.inr (Or.inr c31)))⟩, if_pos (Int32.not_le.mp c42)])]; exact ⟨rfl, rfl⟩)
          · refine lv_aload_n hx hb dX5_sheet_34 rfl (lv_at hl 1 rfl) ?_
            refine lv_ldc (v := (-1000000001)) hx hb hown (hts _ ckX5_51) dX5_sheet_35 ?_
            refine zcVwi (r := (-1000000001)) hx hb hml hown hts hl.1 hK hE hA lkX5_52 (c_X5_found x b t S l0 T l1 K l2 ik fd tb tq bo so nn (-1000000001) 0 (by decide) (by decide)) ⟨Nat.le_of_ble_eq_true rfl, Nat.le_of_ble_eq_true rfl⟩ ⟨Nat.zero_le _, Nat.zero_le _⟩ hw 0 3 rfl rfl rfl rfl (Nat.le_of_ble_eq_true rfl) dX5_sheet_37 (fun H locs hw => ?_)
            have hw : zHw x A s.heap (zHW x b t S l0 T l1 K l2 ik (upd fd 0 (fd 0 + 1)) tb tq bo so nn) H locs := hw
            exact zFG.iret hx hb hr hlocks hQ hw rfl dX5_sheet_40 (by rw [show zm_sheet bo so nn fd 2 vb vn = ((-1000000001), bo, so, nn, zFd fd 0) from (by unfold zm_sheet; first | rw [if_neg (fun h => hno h.1)] | rw [if_neg (fun h => by rcases h.2 with q | q | q | q; exact c13 q; exact c19 q; exact c25 q; exact c31 q)])]; exact ⟨rfl, rfl⟩)
  · refine lv_aload_n hx hb dX5_sheet_0 rfl (lv_at hl 0 rfl) ?_
    refine lv_iload_n hx hb dX5_sheet_1 rfl (lv_at hl 1 rfl) ?_
    refine zcVwa hx hb hml hown hts hl.1 hK hE hA lkX5_219 (c_X5_sheetAt_3 x b t S l0 T l1 K l2 ik fd tb tq bo so nn) ⟨Nat.le_of_ble_eq_true rfl, Nat.le_of_ble_eq_true rfl⟩ ⟨Nat.zero_le _, Nat.zero_le _⟩ hw 0 3 rfl rfl rfl rfl (Nat.le_of_ble_eq_true rfl) dX5_sheet_2 (fun H locs hw => ?_)
    have hw : zHw x A s.heap (zHW x b t S l0 T l1 K l2 ik fd tb tq bo so nn) H locs := hw
    refine lv_astore (lv' := [(4, .ref (b 8)), (0, .ref (b 0)), (1, .int 3), (2, .int vb), (3, .int vn)]) hx hb dX5_sheet_5 hl (by decide) rfl (fun ls hl => ?_)
    refine lv_aload hx hb dX5_sheet_7 (lv_at hl 0 rfl) ?_
    refine lv_ifnull hx hb dX5_sheet_9 ?_
    refine lv_iload_n hx hb dX5_sheet_12 rfl (lv_at hl 3 rfl) ?_
    refine lv_if_eq (tgt := 41) hx hb dX5_sheet_13 (by decide) (fun c13 => ?_) (fun c13 => ?_)
    · refine lv_iload_n hx hb dX5_sheet_41 rfl (lv_at hl 4 rfl) ?_
      refine lv_if_ge (tgt := 52) hx hb dX5_sheet_42 (by decide) (fun c42 => ?_) (fun c42 => ?_)
      · refine lv_iload_n hx hb dX5_sheet_52 rfl (lv_at hl 4 rfl) ?_
        refine lv_bipush (v := 40) hx hb dX5_sheet_53 (by decide) ?_
        refine lv_icmp_le (tgt := 65) hx hb dX5_sheet_55 (by decide) (fun c55 => ?_) (fun c55 => ?_)
        · refine lv_aload hx hb dX5_sheet_65 (lv_at hl 0 rfl) ?_
          refine lv_iload_n hx hb dX5_sheet_67 rfl (lv_at hl 3 rfl) ?_
          refine lv_iload_n hx hb dX5_sheet_68 rfl (lv_at hl 3 rfl) ?_
          refine lv_if_ne (tgt := 76) hx hb dX5_sheet_69 (by decide) (fun c69 => ?_) (fun c69 => ?_)
          · refine lv_iload_n hx hb dX5_sheet_76 rfl (lv_at hl 4 rfl) ?_
            refine zcVmv (C1 := (zOW x b t ik fd ++ (zTW x (t 0) S l0 ++ (zTW x (t 1) T l1 ++ (zTW x (t 2) K l2 ++ (zPW x b tb tq ++ (zSH x (b 5) (b 9) (bo 0) (so 0) (nn 0) ++ (zSH x (b 6) (b 10) (bo 1) (so 1) (nn 1) ++ zSH x (b 7) (b 11) (bo 2) (so 2) (nn 2))))))))) (C2 := []) hx hb hml hown hts hl.1 hK hE hA lkX5_224 (c_X1_begin x (b 8) (b 12) (bo 3) (so 3) (nn 3) vb vn) ⟨Nat.le_of_ble_eq_true rfl, Nat.le_of_ble_eq_true rfl⟩ ⟨Nat.zero_le _, Nat.zero_le _⟩ hw 0 0 rfl rfl rfl rfl (Nat.le_of_ble_eq_true rfl) dX5_sheet_77 (fun H locs hw => ?_)
            have hw : zHw x A s.heap (zHW x b t S l0 T l1 K l2 ik fd tb tq (upd bo 3 vb) (upd so 3 vn) (zVL nn 3 (fun _ => 0))) H locs := hw
            refine lv_aload hx hb dX5_sheet_80 (lv_at hl 0 rfl) ?_
            refine gfX5_227 hx hb hown hts hK hw 38 rfl rfl dX5_sheet_82 ?_
            exact zFG.iret hx hb hr hlocks hQ hw rfl dX5_sheet_85 (by rw [show zm_sheet bo so nn fd 3 vb vn = ((upd so 3 vn) 3, upd bo 3 vb, upd so 3 vn, zVL nn 3 (fun _ => 0), fd) from (by unfold zm_sheet; rw [if_pos ⟨by decide, (by first | exact Or.inl c13 | exact Or.inr (Or.inl c19) | exact Or.inr (Or.inr (Or.inl c25)) | exact Or.inr (Or.inr (Or.inr c31)))⟩, if_neg (Int32.not_lt.mpr c42), if_neg (Int32.not_lt.mpr c55)]; first | (rw [if_pos c69]; rfl) | (rw [if_neg c69]; rfl))]; exact ⟨rfl, rfl⟩)
          · refine lv_iconst (v := 0) hx hb dX5_sheet_72 (by decide) ?_
            refine lv_goto (tgt := 77) hx hb dX5_sheet_73 (by decide) ?_
            refine zcVmv (C1 := (zOW x b t ik fd ++ (zTW x (t 0) S l0 ++ (zTW x (t 1) T l1 ++ (zTW x (t 2) K l2 ++ (zPW x b tb tq ++ (zSH x (b 5) (b 9) (bo 0) (so 0) (nn 0) ++ (zSH x (b 6) (b 10) (bo 1) (so 1) (nn 1) ++ zSH x (b 7) (b 11) (bo 2) (so 2) (nn 2))))))))) (C2 := []) hx hb hml hown hts hl.1 hK hE hA lkX5_224 (c_X1_begin x (b 8) (b 12) (bo 3) (so 3) (nn 3) vb 0) ⟨Nat.le_of_ble_eq_true rfl, Nat.le_of_ble_eq_true rfl⟩ ⟨Nat.zero_le _, Nat.zero_le _⟩ hw 0 0 rfl rfl rfl rfl (Nat.le_of_ble_eq_true rfl) dX5_sheet_77 (fun H locs hw => ?_)
            have hw : zHw x A s.heap (zHW x b t S l0 T l1 K l2 ik fd tb tq (upd bo 3 vb) (upd so 3 0) (zVL nn 3 (fun _ => 0))) H locs := hw
            refine lv_aload hx hb dX5_sheet_80 (lv_at hl 0 rfl) ?_
            refine gfX5_227 hx hb hown hts hK hw 38 rfl rfl dX5_sheet_82 ?_
            exact zFG.iret hx hb hr hlocks hQ hw rfl dX5_sheet_85 (by rw [show zm_sheet bo so nn fd 3 vb vn = ((upd so 3 0) 3, upd bo 3 vb, upd so 3 0, zVL nn 3 (fun _ => 0), fd) from (by unfold zm_sheet; rw [if_pos ⟨by decide, (by first | exact Or.inl c13 | exact Or.inr (Or.inl c19) | exact Or.inr (Or.inr (Or.inl c25)) | exact Or.inr (Or.inr (Or.inr c31)))⟩, if_neg (Int32.not_lt.mpr c42), if_neg (Int32.not_lt.mpr c55)]; first | (rw [if_pos c69]; rfl) | (rw [if_neg c69]; rfl))]; exact ⟨rfl, rfl⟩)
        · refine lv_aload_n hx hb dX5_sheet_58 rfl (lv_at hl 1 rfl) ?_
          refine lv_ldc (v := (-1000000001)) hx hb hown (hts _ ckX5_51) dX5_sheet_59 ?_
          refine zcVwi (r := (-1000000001)) hx hb hml hown hts hl.1 hK hE hA lkX5_52 (c_X5_found x b t S l0 T l1 K l2 ik fd tb tq bo so nn (-1000000001) 0 (by decide) (by decide)) ⟨Nat.le_of_ble_eq_true rfl, Nat.le_of_ble_eq_true rfl⟩ ⟨Nat.zero_le _, Nat.zero_le _⟩ hw 0 3 rfl rfl rfl rfl (Nat.le_of_ble_eq_true rfl) dX5_sheet_61 (fun H locs hw => ?_)
          have hw : zHw x A s.heap (zHW x b t S l0 T l1 K l2 ik (upd fd 0 (fd 0 + 1)) tb tq bo so nn) H locs := hw
          exact zFG.iret hx hb hr hlocks hQ hw rfl dX5_sheet_64 (by rw [show zm_sheet bo so nn fd 3 vb vn = ((-1000000001), bo, so, nn, zFd fd 0) from (by unfold zm_sheet; rw [if_pos ⟨by decide, (by first | exact Or.inl c13 | exact Or.inr (Or.inl c19) | exact Or.inr (Or.inr (Or.inl c25)) | exact Or.inr (Or.inr (Or.inr c31)))⟩, if_neg (Int32.not_lt.mpr c42), if_pos (Int32.not_le.mp c55)])]; exact ⟨rfl, rfl⟩)
      · refine lv_aload_n hx hb dX5_sheet_45 rfl (lv_at hl 1 rfl) ?_
        refine lv_ldc (v := (-1000000007)) hx hb hown (hts _ ckX5_223) dX5_sheet_46 ?_
        refine zcVwi (r := (-1000000007)) hx hb hml hown hts hl.1 hK hE hA lkX5_52 (c_X5_found x b t S l0 T l1 K l2 ik fd tb tq bo so nn (-1000000007) 6 (by decide) (by decide)) ⟨Nat.le_of_ble_eq_true rfl, Nat.le_of_ble_eq_true rfl⟩ ⟨Nat.zero_le _, Nat.zero_le _⟩ hw 0 3 rfl rfl rfl rfl (Nat.le_of_ble_eq_true rfl) dX5_sheet_48 (fun H locs hw => ?_)
        have hw : zHw x A s.heap (zHW x b t S l0 T l1 K l2 ik (upd fd 6 (fd 6 + 1)) tb tq bo so nn) H locs := hw
        exact zFG.iret hx hb hr hlocks hQ hw rfl dX5_sheet_51 (by rw [show zm_sheet bo so nn fd 3 vb vn = ((-1000000007), bo, so, nn, zFd fd 6) from (by unfold zm_sheet; rw [if_pos ⟨by decide, (by first | exact Or.inl c13 | exact Or.inr (Or.inl c19) | exact Or.inr (Or.inr (Or.inl c25)) | exact Or.inr (Or.inr (Or.inr c31)))⟩, if_pos (Int32.not_le.mp c42)])]; exact ⟨rfl, rfl⟩)
    · refine lv_iload_n hx hb dX5_sheet_16 rfl (lv_at hl 3 rfl) ?_
      refine lv_bipush (v := 8) hx hb dX5_sheet_17 (by decide) ?_
      refine lv_icmp_eq (tgt := 41) hx hb dX5_sheet_19 (by decide) (fun c19 => ?_) (fun c19 => ?_)
      · refine lv_iload_n hx hb dX5_sheet_41 rfl (lv_at hl 4 rfl) ?_
        refine lv_if_ge (tgt := 52) hx hb dX5_sheet_42 (by decide) (fun c42 => ?_) (fun c42 => ?_)
        · refine lv_iload_n hx hb dX5_sheet_52 rfl (lv_at hl 4 rfl) ?_
          refine lv_bipush (v := 40) hx hb dX5_sheet_53 (by decide) ?_
          refine lv_icmp_le (tgt := 65) hx hb dX5_sheet_55 (by decide) (fun c55 => ?_) (fun c55 => ?_)
          · refine lv_aload hx hb dX5_sheet_65 (lv_at hl 0 rfl) ?_
            refine lv_iload_n hx hb dX5_sheet_67 rfl (lv_at hl 3 rfl) ?_
            refine lv_iload_n hx hb dX5_sheet_68 rfl (lv_at hl 3 rfl) ?_
            refine lv_if_ne (tgt := 76) hx hb dX5_sheet_69 (by decide) (fun c69 => ?_) (fun c69 => ?_)
            · refine lv_iload_n hx hb dX5_sheet_76 rfl (lv_at hl 4 rfl) ?_
              refine zcVmv (C1 := (zOW x b t ik fd ++ (zTW x (t 0) S l0 ++ (zTW x (t 1) T l1 ++ (zTW x (t 2) K l2 ++ (zPW x b tb tq ++ (zSH x (b 5) (b 9) (bo 0) (so 0) (nn 0) ++ (zSH x (b 6) (b 10) (bo 1) (so 1) (nn 1) ++ zSH x (b 7) (b 11) (bo 2) (so 2) (nn 2))))))))) (C2 := []) hx hb hml hown hts hl.1 hK hE hA lkX5_224 (c_X1_begin x (b 8) (b 12) (bo 3) (so 3) (nn 3) vb vn) ⟨Nat.le_of_ble_eq_true rfl, Nat.le_of_ble_eq_true rfl⟩ ⟨Nat.zero_le _, Nat.zero_le _⟩ hw 0 0 rfl rfl rfl rfl (Nat.le_of_ble_eq_true rfl) dX5_sheet_77 (fun H locs hw => ?_)
              have hw : zHw x A s.heap (zHW x b t S l0 T l1 K l2 ik fd tb tq (upd bo 3 vb) (upd so 3 vn) (zVL nn 3 (fun _ => 0))) H locs := hw
              refine lv_aload hx hb dX5_sheet_80 (lv_at hl 0 rfl) ?_
              refine gfX5_227 hx hb hown hts hK hw 38 rfl rfl dX5_sheet_82 ?_
              exact zFG.iret hx hb hr hlocks hQ hw rfl dX5_sheet_85 (by rw [show zm_sheet bo so nn fd 3 vb vn = ((upd so 3 vn) 3, upd bo 3 vb, upd so 3 vn, zVL nn 3 (fun _ => 0), fd) from (by unfold zm_sheet; rw [if_pos ⟨by decide, (by first | exact Or.inl c13 | exact Or.inr (Or.inl c19) | exact Or.inr (Or.inr (Or.inl c25)) | exact Or.inr (Or.inr (Or.inr c31)))⟩, if_neg (Int32.not_lt.mpr c42), if_neg (Int32.not_lt.mpr c55)]; first | (rw [if_pos c69]; rfl) | (rw [if_neg c69]; rfl))]; exact ⟨rfl, rfl⟩)
            · refine lv_iconst (v := 0) hx hb dX5_sheet_72 (by decide) ?_
              refine lv_goto (tgt := 77) hx hb dX5_sheet_73 (by decide) ?_
              refine zcVmv (C1 := (zOW x b t ik fd ++ (zTW x (t 0) S l0 ++ (zTW x (t 1) T l1 ++ (zTW x (t 2) K l2 ++ (zPW x b tb tq ++ (zSH x (b 5) (b 9) (bo 0) (so 0) (nn 0) ++ (zSH x (b 6) (b 10) (bo 1) (so 1) (nn 1) ++ zSH x (b 7) (b 11) (bo 2) (so 2) (nn 2))))))))) (C2 := []) hx hb hml hown hts hl.1 hK hE hA lkX5_224 (c_X1_begin x (b 8) (b 12) (bo 3) (so 3) (nn 3) vb 0) ⟨Nat.le_of_ble_eq_true rfl, Nat.le_of_ble_eq_true rfl⟩ ⟨Nat.zero_le _, Nat.zero_le _⟩ hw 0 0 rfl rfl rfl rfl (Nat.le_of_ble_eq_true rfl) dX5_sheet_77 (fun H locs hw => ?_)
              have hw : zHw x A s.heap (zHW x b t S l0 T l1 K l2 ik fd tb tq (upd bo 3 vb) (upd so 3 0) (zVL nn 3 (fun _ => 0))) H locs := hw
              refine lv_aload hx hb dX5_sheet_80 (lv_at hl 0 rfl) ?_
              refine gfX5_227 hx hb hown hts hK hw 38 rfl rfl dX5_sheet_82 ?_
              exact zFG.iret hx hb hr hlocks hQ hw rfl dX5_sheet_85 (by rw [show zm_sheet bo so nn fd 3 vb vn = ((upd so 3 0) 3, upd bo 3 vb, upd so 3 0, zVL nn 3 (fun _ => 0), fd) from (by unfold zm_sheet; rw [if_pos ⟨by decide, (by first | exact Or.inl c13 | exact Or.inr (Or.inl c19) | exact Or.inr (Or.inr (Or.inl c25)) | exact Or.inr (Or.inr (Or.inr c31)))⟩, if_neg (Int32.not_lt.mpr c42), if_neg (Int32.not_lt.mpr c55)]; first | (rw [if_pos c69]; rfl) | (rw [if_neg c69]; rfl))]; exact ⟨rfl, rfl⟩)
          · refine lv_aload_n hx hb dX5_sheet_58 rfl (lv_at hl 1 rfl) ?_
            refine lv_ldc (v := (-1000000001)) hx hb hown (hts _ ckX5_51) dX5_sheet_59 ?_
            refine zcVwi (r := (-1000000001)) hx hb hml hown hts hl.1 hK hE hA lkX5_52 (c_X5_found x b t S l0 T l1 K l2 ik fd tb tq bo so nn (-1000000001) 0 (by decide) (by decide)) ⟨Nat.le_of_ble_eq_true rfl, Nat.le_of_ble_eq_true rfl⟩ ⟨Nat.zero_le _, Nat.zero_le _⟩ hw 0 3 rfl rfl rfl rfl (Nat.le_of_ble_eq_true rfl) dX5_sheet_61 (fun H locs hw => ?_)
            have hw : zHw x A s.heap (zHW x b t S l0 T l1 K l2 ik (upd fd 0 (fd 0 + 1)) tb tq bo so nn) H locs := hw
            exact zFG.iret hx hb hr hlocks hQ hw rfl dX5_sheet_64 (by rw [show zm_sheet bo so nn fd 3 vb vn = ((-1000000001), bo, so, nn, zFd fd 0) from (by unfold zm_sheet; rw [if_pos ⟨by decide, (by first | exact Or.inl c13 | exact Or.inr (Or.inl c19) | exact Or.inr (Or.inr (Or.inl c25)) | exact Or.inr (Or.inr (Or.inr c31)))⟩, if_neg (Int32.not_lt.mpr c42), if_pos (Int32.not_le.mp c55)])]; exact ⟨rfl, rfl⟩)
        · refine lv_aload_n hx hb dX5_sheet_45 rfl (lv_at hl 1 rfl) ?_
          refine lv_ldc (v := (-1000000007)) hx hb hown (hts _ ckX5_223) dX5_sheet_46 ?_
          refine zcVwi (r := (-1000000007)) hx hb hml hown hts hl.1 hK hE hA lkX5_52 (c_X5_found x b t S l0 T l1 K l2 ik fd tb tq bo so nn (-1000000007) 6 (by decide) (by decide)) ⟨Nat.le_of_ble_eq_true rfl, Nat.le_of_ble_eq_true rfl⟩ ⟨Nat.zero_le _, Nat.zero_le _⟩ hw 0 3 rfl rfl rfl rfl (Nat.le_of_ble_eq_true rfl) dX5_sheet_48 (fun H locs hw => ?_)
          have hw : zHw x A s.heap (zHW x b t S l0 T l1 K l2 ik (upd fd 6 (fd 6 + 1)) tb tq bo so nn) H locs := hw
          exact zFG.iret hx hb hr hlocks hQ hw rfl dX5_sheet_51 (by rw [show zm_sheet bo so nn fd 3 vb vn = ((-1000000007), bo, so, nn, zFd fd 6) from (by unfold zm_sheet; rw [if_pos ⟨by decide, (by first | exact Or.inl c13 | exact Or.inr (Or.inl c19) | exact Or.inr (Or.inr (Or.inl c25)) | exact Or.inr (Or.inr (Or.inr c31)))⟩, if_pos (Int32.not_le.mp c42)])]; exact ⟨rfl, rfl⟩)
      · refine lv_iload_n hx hb dX5_sheet_22 rfl (lv_at hl 3 rfl) ?_
        refine lv_bipush (v := 16) hx hb dX5_sheet_23 (by decide) ?_
        refine lv_icmp_eq (tgt := 41) hx hb dX5_sheet_25 (by decide) (fun c25 => ?_) (fun c25 => ?_)
        · refine lv_iload_n hx hb dX5_sheet_41 rfl (lv_at hl 4 rfl) ?_
          refine lv_if_ge (tgt := 52) hx hb dX5_sheet_42 (by decide) (fun c42 => ?_) (fun c42 => ?_)
          · refine lv_iload_n hx hb dX5_sheet_52 rfl (lv_at hl 4 rfl) ?_
            refine lv_bipush (v := 40) hx hb dX5_sheet_53 (by decide) ?_
            refine lv_icmp_le (tgt := 65) hx hb dX5_sheet_55 (by decide) (fun c55 => ?_) (fun c55 => ?_)
            · refine lv_aload hx hb dX5_sheet_65 (lv_at hl 0 rfl) ?_
              refine lv_iload_n hx hb dX5_sheet_67 rfl (lv_at hl 3 rfl) ?_
              refine lv_iload_n hx hb dX5_sheet_68 rfl (lv_at hl 3 rfl) ?_
              refine lv_if_ne (tgt := 76) hx hb dX5_sheet_69 (by decide) (fun c69 => ?_) (fun c69 => ?_)
              · refine lv_iload_n hx hb dX5_sheet_76 rfl (lv_at hl 4 rfl) ?_
                refine zcVmv (C1 := (zOW x b t ik fd ++ (zTW x (t 0) S l0 ++ (zTW x (t 1) T l1 ++ (zTW x (t 2) K l2 ++ (zPW x b tb tq ++ (zSH x (b 5) (b 9) (bo 0) (so 0) (nn 0) ++ (zSH x (b 6) (b 10) (bo 1) (so 1) (nn 1) ++ zSH x (b 7) (b 11) (bo 2) (so 2) (nn 2))))))))) (C2 := []) hx hb hml hown hts hl.1 hK hE hA lkX5_224 (c_X1_begin x (b 8) (b 12) (bo 3) (so 3) (nn 3) vb vn) ⟨Nat.le_of_ble_eq_true rfl, Nat.le_of_ble_eq_true rfl⟩ ⟨Nat.zero_le _, Nat.zero_le _⟩ hw 0 0 rfl rfl rfl rfl (Nat.le_of_ble_eq_true rfl) dX5_sheet_77 (fun H locs hw => ?_)
                have hw : zHw x A s.heap (zHW x b t S l0 T l1 K l2 ik fd tb tq (upd bo 3 vb) (upd so 3 vn) (zVL nn 3 (fun _ => 0))) H locs := hw
                refine lv_aload hx hb dX5_sheet_80 (lv_at hl 0 rfl) ?_
                refine gfX5_227 hx hb hown hts hK hw 38 rfl rfl dX5_sheet_82 ?_
                exact zFG.iret hx hb hr hlocks hQ hw rfl dX5_sheet_85 (by rw [show zm_sheet bo so nn fd 3 vb vn = ((upd so 3 vn) 3, upd bo 3 vb, upd so 3 vn, zVL nn 3 (fun _ => 0), fd) from (by unfold zm_sheet; rw [if_pos ⟨by decide, (by first | exact Or.inl c13 | exact Or.inr (Or.inl c19) | exact Or.inr (Or.inr (Or.inl c25)) | exact Or.inr (Or.inr (Or.inr c31)))⟩, if_neg (Int32.not_lt.mpr c42), if_neg (Int32.not_lt.mpr c55)]; first | (rw [if_pos c69]; rfl) | (rw [if_neg c69]; rfl))]; exact ⟨rfl, rfl⟩)
              · refine lv_iconst (v := 0) hx hb dX5_sheet_72 (by decide) ?_
                refine lv_goto (tgt := 77) hx hb dX5_sheet_73 (by decide) ?_
                refine zcVmv (C1 := (zOW x b t ik fd ++ (zTW x (t 0) S l0 ++ (zTW x (t 1) T l1 ++ (zTW x (t 2) K l2 ++ (zPW x b tb tq ++ (zSH x (b 5) (b 9) (bo 0) (so 0) (nn 0) ++ (zSH x (b 6) (b 10) (bo 1) (so 1) (nn 1) ++ zSH x (b 7) (b 11) (bo 2) (so 2) (nn 2))))))))) (C2 := []) hx hb hml hown hts hl.1 hK hE hA lkX5_224 (c_X1_begin x (b 8) (b 12) (bo 3) (so 3) (nn 3) vb 0) ⟨Nat.le_of_ble_eq_true rfl, Nat.le_of_ble_eq_true rfl⟩ ⟨Nat.zero_le _, Nat.zero_le _⟩ hw 0 0 rfl rfl rfl rfl (Nat.le_of_ble_eq_true rfl) dX5_sheet_77 (fun H locs hw => ?_)
                have hw : zHw x A s.heap (zHW x b t S l0 T l1 K l2 ik fd tb tq (upd bo 3 vb) (upd so 3 0) (zVL nn 3 (fun _ => 0))) H locs := hw
                refine lv_aload hx hb dX5_sheet_80 (lv_at hl 0 rfl) ?_
                refine gfX5_227 hx hb hown hts hK hw 38 rfl rfl dX5_sheet_82 ?_
                exact zFG.iret hx hb hr hlocks hQ hw rfl dX5_sheet_85 (by rw [show zm_sheet bo so nn fd 3 vb vn = ((upd so 3 0) 3, upd bo 3 vb, upd so 3 0, zVL nn 3 (fun _ => 0), fd) from (by unfold zm_sheet; rw [if_pos ⟨by decide, (by first | exact Or.inl c13 | exact Or.inr (Or.inl c19) | exact Or.inr (Or.inr (Or.inl c25)) | exact Or.inr (Or.inr (Or.inr c31)))⟩, if_neg (Int32.not_lt.mpr c42), if_neg (Int32.not_lt.mpr c55)]; first | (rw [if_pos c69]; rfl) | (rw [if_neg c69]; rfl))]; exact ⟨rfl, rfl⟩)
            · refine lv_aload_n hx hb dX5_sheet_58 rfl (lv_at hl 1 rfl) ?_
              refine lv_ldc (v := (-1000000001)) hx hb hown (hts _ ckX5_51) dX5_sheet_59 ?_
              refine zcVwi (r := (-1000000001)) hx hb hml hown hts hl.1 hK hE hA lkX5_52 (c_X5_found x b t S l0 T l1 K l2 ik fd tb tq bo so nn (-1000000001) 0 (by decide) (by decide)) ⟨Nat.le_of_ble_eq_true rfl, Nat.le_of_ble_eq_true rfl⟩ ⟨Nat.zero_le _, Nat.zero_le _⟩ hw 0 3 rfl rfl rfl rfl (Nat.le_of_ble_eq_true rfl) dX5_sheet_61 (fun H locs hw => ?_)
              have hw : zHw x A s.heap (zHW x b t S l0 T l1 K l2 ik (upd fd 0 (fd 0 + 1)) tb tq bo so nn) H locs := hw
              exact zFG.iret hx hb hr hlocks hQ hw rfl dX5_sheet_64 (by rw [show zm_sheet bo so nn fd 3 vb vn = ((-1000000001), bo, so, nn, zFd fd 0) from (by unfold zm_sheet; rw [if_pos ⟨by decide, (by first | exact Or.inl c13 | exact Or.inr (Or.inl c19) | exact Or.inr (Or.inr (Or.inl c25)) | exact Or.inr (Or.inr (Or.inr c31)))⟩, if_neg (Int32.not_lt.mpr c42), if_pos (Int32.not_le.mp c55)])]; exact ⟨rfl, rfl⟩)
          · refine lv_aload_n hx hb dX5_sheet_45 rfl (lv_at hl 1 rfl) ?_
            refine lv_ldc (v := (-1000000007)) hx hb hown (hts _ ckX5_223) dX5_sheet_46 ?_
            refine zcVwi (r := (-1000000007)) hx hb hml hown hts hl.1 hK hE hA lkX5_52 (c_X5_found x b t S l0 T l1 K l2 ik fd tb tq bo so nn (-1000000007) 6 (by decide) (by decide)) ⟨Nat.le_of_ble_eq_true rfl, Nat.le_of_ble_eq_true rfl⟩ ⟨Nat.zero_le _, Nat.zero_le _⟩ hw 0 3 rfl rfl rfl rfl (Nat.le_of_ble_eq_true rfl) dX5_sheet_48 (fun H locs hw => ?_)
            have hw : zHw x A s.heap (zHW x b t S l0 T l1 K l2 ik (upd fd 6 (fd 6 + 1)) tb tq bo so nn) H locs := hw
            exact zFG.iret hx hb hr hlocks hQ hw rfl dX5_sheet_51 (by rw [show zm_sheet bo so nn fd 3 vb vn = ((-1000000007), bo, so, nn, zFd fd 6) from (by unfold zm_sheet; rw [if_pos ⟨by decide, (by first | exact Or.inl c13 | exact Or.inr (Or.inl c19) | exact Or.inr (Or.inr (Or.inl c25)) | exact Or.inr (Or.inr (Or.inr c31)))⟩, if_pos (Int32.not_le.mp c42)])]; exact ⟨rfl, rfl⟩)
        · refine lv_iload_n hx hb dX5_sheet_28 rfl (lv_at hl 3 rfl) ?_
          refine lv_bipush (v := 64) hx hb dX5_sheet_29 (by decide) ?_
          refine lv_icmp_eq (tgt := 41) hx hb dX5_sheet_31 (by decide) (fun c31 => ?_) (fun c31 => ?_)
          · refine lv_iload_n hx hb dX5_sheet_41 rfl (lv_at hl 4 rfl) ?_
            refine lv_if_ge (tgt := 52) hx hb dX5_sheet_42 (by decide) (fun c42 => ?_) (fun c42 => ?_)
            · refine lv_iload_n hx hb dX5_sheet_52 rfl (lv_at hl 4 rfl) ?_
              refine lv_bipush (v := 40) hx hb dX5_sheet_53 (by decide) ?_
              refine lv_icmp_le (tgt := 65) hx hb dX5_sheet_55 (by decide) (fun c55 => ?_) (fun c55 => ?_)
              · refine lv_aload hx hb dX5_sheet_65 (lv_at hl 0 rfl) ?_
                refine lv_iload_n hx hb dX5_sheet_67 rfl (lv_at hl 3 rfl) ?_
                refine lv_iload_n hx hb dX5_sheet_68 rfl (lv_at hl 3 rfl) ?_
                refine lv_if_ne (tgt := 76) hx hb dX5_sheet_69 (by decide) (fun c69 => ?_) (fun c69 => ?_)
                · refine lv_iload_n hx hb dX5_sheet_76 rfl (lv_at hl 4 rfl) ?_
                  refine zcVmv (C1 := (zOW x b t ik fd ++ (zTW x (t 0) S l0 ++ (zTW x (t 1) T l1 ++ (zTW x (t 2) K l2 ++ (zPW x b tb tq ++ (zSH x (b 5) (b 9) (bo 0) (so 0) (nn 0) ++ (zSH x (b 6) (b 10) (bo 1) (so 1) (nn 1) ++ zSH x (b 7) (b 11) (bo 2) (so 2) (nn 2))))))))) (C2 := []) hx hb hml hown hts hl.1 hK hE hA lkX5_224 (c_X1_begin x (b 8) (b 12) (bo 3) (so 3) (nn 3) vb vn) ⟨Nat.le_of_ble_eq_true rfl, Nat.le_of_ble_eq_true rfl⟩ ⟨Nat.zero_le _, Nat.zero_le _⟩ hw 0 0 rfl rfl rfl rfl (Nat.le_of_ble_eq_true rfl) dX5_sheet_77 (fun H locs hw => ?_)
                  have hw : zHw x A s.heap (zHW x b t S l0 T l1 K l2 ik fd tb tq (upd bo 3 vb) (upd so 3 vn) (zVL nn 3 (fun _ => 0))) H locs := hw
                  refine lv_aload hx hb dX5_sheet_80 (lv_at hl 0 rfl) ?_
                  refine gfX5_227 hx hb hown hts hK hw 38 rfl rfl dX5_sheet_82 ?_
                  exact zFG.iret hx hb hr hlocks hQ hw rfl dX5_sheet_85 (by rw [show zm_sheet bo so nn fd 3 vb vn = ((upd so 3 vn) 3, upd bo 3 vb, upd so 3 vn, zVL nn 3 (fun _ => 0), fd) from (by unfold zm_sheet; rw [if_pos ⟨by decide, (by first | exact Or.inl c13 | exact Or.inr (Or.inl c19) | exact Or.inr (Or.inr (Or.inl c25)) | exact Or.inr (Or.inr (Or.inr c31)))⟩, if_neg (Int32.not_lt.mpr c42), if_neg (Int32.not_lt.mpr c55)]; first | (rw [if_pos c69]; rfl) | (rw [if_neg c69]; rfl))]; exact ⟨rfl, rfl⟩)
                · refine lv_iconst (v := 0) hx hb dX5_sheet_72 (by decide) ?_
                  refine lv_goto (tgt := 77) hx hb dX5_sheet_73 (by decide) ?_
                  refine zcVmv (C1 := (zOW x b t ik fd ++ (zTW x (t 0) S l0 ++ (zTW x (t 1) T l1 ++ (zTW x (t 2) K l2 ++ (zPW x b tb tq ++ (zSH x (b 5) (b 9) (bo 0) (so 0) (nn 0) ++ (zSH x (b 6) (b 10) (bo 1) (so 1) (nn 1) ++ zSH x (b 7) (b 11) (bo 2) (so 2) (nn 2))))))))) (C2 := []) hx hb hml hown hts hl.1 hK hE hA lkX5_224 (c_X1_begin x (b 8) (b 12) (bo 3) (so 3) (nn 3) vb 0) ⟨Nat.le_of_ble_eq_true rfl, Nat.le_of_ble_eq_true rfl⟩ ⟨Nat.zero_le _, Nat.zero_le _⟩ hw 0 0 rfl rfl rfl rfl (Nat.le_of_ble_eq_true rfl) dX5_sheet_77 (fun H locs hw => ?_)
                  have hw : zHw x A s.heap (zHW x b t S l0 T l1 K l2 ik fd tb tq (upd bo 3 vb) (upd so 3 0) (zVL nn 3 (fun _ => 0))) H locs := hw
                  refine lv_aload hx hb dX5_sheet_80 (lv_at hl 0 rfl) ?_
                  refine gfX5_227 hx hb hown hts hK hw 38 rfl rfl dX5_sheet_82 ?_
                  exact zFG.iret hx hb hr hlocks hQ hw rfl dX5_sheet_85 (by rw [show zm_sheet bo so nn fd 3 vb vn = ((upd so 3 0) 3, upd bo 3 vb, upd so 3 0, zVL nn 3 (fun _ => 0), fd) from (by unfold zm_sheet; rw [if_pos ⟨by decide, (by first | exact Or.inl c13 | exact Or.inr (Or.inl c19) | exact Or.inr (Or.inr (Or.inl c25)) | exact Or.inr (Or.inr (Or.inr c31)))⟩, if_neg (Int32.not_lt.mpr c42), if_neg (Int32.not_lt.mpr c55)]; first | (rw [if_pos c69]; rfl) | (rw [if_neg c69]; rfl))]; exact ⟨rfl, rfl⟩)
              · refine lv_aload_n hx hb dX5_sheet_58 rfl (lv_at hl 1 rfl) ?_
                refine lv_ldc (v := (-1000000001)) hx hb hown (hts _ ckX5_51) dX5_sheet_59 ?_
                refine zcVwi (r := (-1000000001)) hx hb hml hown hts hl.1 hK hE hA lkX5_52 (c_X5_found x b t S l0 T l1 K l2 ik fd tb tq bo so nn (-1000000001) 0 (by decide) (by decide)) ⟨Nat.le_of_ble_eq_true rfl, Nat.le_of_ble_eq_true rfl⟩ ⟨Nat.zero_le _, Nat.zero_le _⟩ hw 0 3 rfl rfl rfl rfl (Nat.le_of_ble_eq_true rfl) dX5_sheet_61 (fun H locs hw => ?_)
                have hw : zHw x A s.heap (zHW x b t S l0 T l1 K l2 ik (upd fd 0 (fd 0 + 1)) tb tq bo so nn) H locs := hw
                exact zFG.iret hx hb hr hlocks hQ hw rfl dX5_sheet_64 (by rw [show zm_sheet bo so nn fd 3 vb vn = ((-1000000001), bo, so, nn, zFd fd 0) from (by unfold zm_sheet; rw [if_pos ⟨by decide, (by first | exact Or.inl c13 | exact Or.inr (Or.inl c19) | exact Or.inr (Or.inr (Or.inl c25)) | exact Or.inr (Or.inr (Or.inr c31)))⟩, if_neg (Int32.not_lt.mpr c42), if_pos (Int32.not_le.mp c55)])]; exact ⟨rfl, rfl⟩)
            · refine lv_aload_n hx hb dX5_sheet_45 rfl (lv_at hl 1 rfl) ?_
              refine lv_ldc (v := (-1000000007)) hx hb hown (hts _ ckX5_223) dX5_sheet_46 ?_
              refine zcVwi (r := (-1000000007)) hx hb hml hown hts hl.1 hK hE hA lkX5_52 (c_X5_found x b t S l0 T l1 K l2 ik fd tb tq bo so nn (-1000000007) 6 (by decide) (by decide)) ⟨Nat.le_of_ble_eq_true rfl, Nat.le_of_ble_eq_true rfl⟩ ⟨Nat.zero_le _, Nat.zero_le _⟩ hw 0 3 rfl rfl rfl rfl (Nat.le_of_ble_eq_true rfl) dX5_sheet_48 (fun H locs hw => ?_)
              have hw : zHw x A s.heap (zHW x b t S l0 T l1 K l2 ik (upd fd 6 (fd 6 + 1)) tb tq bo so nn) H locs := hw
              exact zFG.iret hx hb hr hlocks hQ hw rfl dX5_sheet_51 (by rw [show zm_sheet bo so nn fd 3 vb vn = ((-1000000007), bo, so, nn, zFd fd 6) from (by unfold zm_sheet; rw [if_pos ⟨by decide, (by first | exact Or.inl c13 | exact Or.inr (Or.inl c19) | exact Or.inr (Or.inr (Or.inl c25)) | exact Or.inr (Or.inr (Or.inr c31)))⟩, if_pos (Int32.not_le.mp c42)])]; exact ⟨rfl, rfl⟩)
          · refine lv_aload_n hx hb dX5_sheet_34 rfl (lv_at hl 1 rfl) ?_
            refine lv_ldc (v := (-1000000001)) hx hb hown (hts _ ckX5_51) dX5_sheet_35 ?_
            refine zcVwi (r := (-1000000001)) hx hb hml hown hts hl.1 hK hE hA lkX5_52 (c_X5_found x b t S l0 T l1 K l2 ik fd tb tq bo so nn (-1000000001) 0 (by decide) (by decide)) ⟨Nat.le_of_ble_eq_true rfl, Nat.le_of_ble_eq_true rfl⟩ ⟨Nat.zero_le _, Nat.zero_le _⟩ hw 0 3 rfl rfl rfl rfl (Nat.le_of_ble_eq_true rfl) dX5_sheet_37 (fun H locs hw => ?_)
            have hw : zHw x A s.heap (zHW x b t S l0 T l1 K l2 ik (upd fd 0 (fd 0 + 1)) tb tq bo so nn) H locs := hw
            exact zFG.iret hx hb hr hlocks hQ hw rfl dX5_sheet_40 (by rw [show zm_sheet bo so nn fd 3 vb vn = ((-1000000001), bo, so, nn, zFd fd 0) from (by unfold zm_sheet; first | rw [if_neg (fun h => hno h.1)] | rw [if_neg (fun h => by rcases h.2 with q | q | q | q; exact c13 q; exact c19 q; exact c25 q; exact c31 q)])]; exact ⟨rfl, rfl⟩)
  · refine lv_aload_n hx hb dX5_sheet_0 rfl (lv_at hl 0 rfl) ?_
    refine lv_iload_n hx hb dX5_sheet_1 rfl (lv_at hl 1 rfl) ?_
    refine zcVwa hx hb hml hown hts hl.1 hK hE hA lkX5_219 (c_X5_sheetAt_no x b t S l0 T l1 K l2 ik fd tb tq bo so nn y hno) ⟨Nat.le_of_ble_eq_true rfl, Nat.le_of_ble_eq_true rfl⟩ ⟨Nat.zero_le _, Nat.zero_le _⟩ hw 0 3 rfl rfl rfl rfl (Nat.le_of_ble_eq_true rfl) dX5_sheet_2 (fun H locs hw => ?_)
    have hw : zHw x A s.heap (zHW x b t S l0 T l1 K l2 ik fd tb tq bo so nn) H locs := hw
    refine lv_astoreN (lv' := [(4, Value.null), (0, .ref (b 0)), (1, .int y), (2, .int vb), (3, .int vn)]) hx hb dX5_sheet_5 hl (by decide) rfl (fun ls hl => ?_)
    refine lv_aloadN hx hb dX5_sheet_7 (lv_at hl 0 rfl) ?_
    refine lv_ifnullN (tgt := 34) hx hb dX5_sheet_9 (by decide) ?_
    refine lv_aload_n hx hb dX5_sheet_34 rfl (lv_at hl 1 rfl) ?_
    refine lv_ldc (v := (-1000000001)) hx hb hown (hts _ ckX5_51) dX5_sheet_35 ?_
    refine zcVwi (r := (-1000000001)) hx hb hml hown hts hl.1 hK hE hA lkX5_52 (c_X5_found x b t S l0 T l1 K l2 ik fd tb tq bo so nn (-1000000001) 0 (by decide) (by decide)) ⟨Nat.le_of_ble_eq_true rfl, Nat.le_of_ble_eq_true rfl⟩ ⟨Nat.zero_le _, Nat.zero_le _⟩ hw 0 3 rfl rfl rfl rfl (Nat.le_of_ble_eq_true rfl) dX5_sheet_37 (fun H locs hw => ?_)
    have hw : zHw x A s.heap (zHW x b t S l0 T l1 K l2 ik (upd fd 0 (fd 0 + 1)) tb tq bo so nn) H locs := hw
    exact zFG.iret hx hb hr hlocks hQ hw rfl dX5_sheet_40 (by rw [show zm_sheet bo so nn fd y vb vn = ((-1000000001), bo, so, nn, zFd fd 0) from (by unfold zm_sheet; first | rw [if_neg (fun h => hno h.1)] | rw [if_neg (fun h => by rcases h.2 with q | q | q | q; exact c13 q; exact c19 q; exact c25 q; exact c31 q)])]; exact ⟨rfl, rfl⟩)

set_option maxHeartbeats 4000000 in
set_option maxRecDepth 100000 in
theorem c_X5_write (x : zX) (b : Nat → Nat) (t : Nat → Nat → Nat) (S : zT) (l0 : Int32) (T : zT) (l1 : Int32) (K : zT) (l2 ik : Int32) (fd tb tq bo so : Nat → Int32) (nn : Nat → Nat → Int64) (y vi : Int32) (v : Int64) (hS : zSI bo so) : zFG x mX5_write 1 [.ref (b 0), .int y, .int vi, .long v] (zHW x b t S l0 T l1 K l2 ik fd tb tq bo so nn) (fun v' u' => v' = some (.long (zm_write bo so nn fd y vi v).1) ∧ u' = zHW x b t S l0 T l1 K l2 ik (zm_write bo so nn fd y vi v).2.2 tb tq bo so (zm_write bo so nn fd y vi v).2.1) := by
  refine zFG.start RX5 cX5_write 8 (some .long) rfl rfl (by decide +kernel) (Nat.le_of_ble_eq_true rfl) ?_
  intro p e s m ar below meth c ls A Q hx hb hr hml hown hts hlocks hK hE hA hQ hl hw
  have hl : lv_has ls 8 [(0, .ref (b 0)), (1, .int y), (2, .int vi), (3, .long v)] := hl
  have hw : zHw x A s.heap (zHW x b t S l0 T l1 K l2 ik fd tb tq bo so nn) s.heap [] := hw
  rcases zcase4 y with rfl | rfl | rfl | rfl | hno
  · refine lv_aload_n hx hb dX5_write_0 rfl (lv_at hl 0 rfl) ?_
    refine lv_iload_n hx hb dX5_write_1 rfl (lv_at hl 1 rfl) ?_
    refine zcVwa hx hb hml hown hts hl.1 hK hE hA lkX5_219 (c_X5_sheetAt_0 x b t S l0 T l1 K l2 ik fd tb tq bo so nn) ⟨Nat.le_of_ble_eq_true rfl, Nat.le_of_ble_eq_true rfl⟩ ⟨Nat.zero_le _, Nat.zero_le _⟩ hw 0 3 rfl rfl rfl rfl (Nat.le_of_ble_eq_true rfl) dX5_write_2 (fun H locs hw => ?_)
    have hw : zHw x A s.heap (zHW x b t S l0 T l1 K l2 ik fd tb tq bo so nn) H locs := hw
    refine lv_astore (lv' := [(5, .ref (b 5)), (0, .ref (b 0)), (1, .int 0), (2, .int vi), (3, .long v)]) hx hb dX5_write_5 hl (by decide) rfl (fun ls hl => ?_)
    refine lv_aload hx hb dX5_write_7 (lv_at hl 0 rfl) ?_
    refine lv_ifnonnull (tgt := 20) hx hb dX5_write_9 (by decide) ?_
    refine lv_aload hx hb dX5_write_20 (lv_at hl 0 rfl) ?_
    refine zcVmi (r := zb (bo 0 = 0)) (C1 := (zOW x b t ik fd ++ (zTW x (t 0) S l0 ++ (zTW x (t 1) T l1 ++ (zTW x (t 2) K l2 ++ zPW x b tb tq))))) (C2 := (zSH x (b 6) (b 10) (bo 1) (so 1) (nn 1) ++ (zSH x (b 7) (b 11) (bo 2) (so 2) (nn 2) ++ zSH x (b 8) (b 12) (bo 3) (so 3) (nn 3)))) hx hb hml hown hts hl.1 hK hE hA lkX5_228 (c_X1_isMissing x (b 5) (b 9) (bo 0) (so 0) (nn 0) ) ⟨Nat.le_of_ble_eq_true rfl, Nat.le_of_ble_eq_true rfl⟩ ⟨Nat.zero_le _, Nat.zero_le _⟩ hw 0 0 rfl rfl rfl rfl (Nat.le_of_ble_eq_true rfl) dX5_write_22 (fun H locs hw => ?_)
    have hw : zHw x A s.heap (zHW x b t S l0 T l1 K l2 ik fd tb tq bo so nn) H locs := hw
    refine lv_if_eq (tgt := 36) hx hb dX5_write_25 (by decide) (fun c25 => ?_) (fun c25 => ?_)
    · have c25 := zb_0.mp c25
      refine lv_iload_n hx hb dX5_write_36 rfl (lv_at hl 3 rfl) ?_
      refine lv_iconst (v := 0) hx hb dX5_write_37 (by decide) ?_
      refine lv_aload hx hb dX5_write_38 (lv_at hl 0 rfl) ?_
      refine gfX5_227 hx hb hown hts hK hw 32 rfl rfl dX5_write_40 ?_
      refine lv_iconst (v := 1) hx hb dX5_write_43 (by decide) ?_
      refine lv_isub hx hb dX5_write_44 ?_
      refine zcSwi (r := zb (0 ≤ vi ∧ vi ≤ (so 0) - 1)) hx hb hml hown hts hl.1 hK hE hA lkX5_44 (c_X5_within x (zHW x b t S l0 T l1 K l2 ik fd tb tq bo so nn) vi 0 ((so 0) - 1)) ⟨Nat.le_of_ble_eq_true rfl, Nat.le_of_ble_eq_true rfl⟩ ⟨Nat.zero_le _, Nat.zero_le _⟩ hw rfl rfl (Nat.le_of_ble_eq_true rfl) dX5_write_45 (fun H locs hw => ?_)
      have hw : zHw x A s.heap (zHW x b t S l0 T l1 K l2 ik fd tb tq bo so nn) H locs := hw
      refine lv_if_ne (tgt := 59) hx hb dX5_write_48 (by decide) (fun c48 => ?_) (fun c48 => ?_)
      · have c48 := zb_n0.mp c48
        obtain ⟨-, n4, hn4, hs4⟩ := hS 0 (by decide)
        obtain ⟨hlt, j, hj, hjn, rfl⟩ := zidx hn4 hs4 c48
        refine lv_aload hx hb dX5_write_59 (lv_at hl 0 rfl) ?_
        refine gfX5_232 hx hb hown hts hK hw 32 rfl rfl dX5_write_61 ?_
        refine lv_iload_n hx hb dX5_write_64 rfl (lv_at hl 3 rfl) ?_
        refine zlal hx hb hK hw 33 1 j rfl rfl rfl (by omega) (by decide) dX5_write_65 ?_
        refine lv_lstore (lv' := [(6, .long ((nn 0) j)), (5, .ref (b 5)), (0, .ref (b 0)), (1, .int 0), (2, .int (nI j)), (3, .long v)]) hx hb dX5_write_66 hl (by decide) rfl (fun ls hl => ?_)
        refine lv_aload hx hb dX5_write_68 (lv_at hl 1 rfl) ?_
        refine lv_iload_n hx hb dX5_write_70 rfl (lv_at hl 4 rfl) ?_
        refine lv_lload_n hx hb dX5_write_71 rfl (lv_at hl 5 rfl) ?_
        refine zcVmv (C1 := (zOW x b t ik fd ++ (zTW x (t 0) S l0 ++ (zTW x (t 1) T l1 ++ (zTW x (t 2) K l2 ++ zPW x b tb tq))))) (C2 := (zSH x (b 6) (b 10) (bo 1) (so 1) (nn 1) ++ (zSH x (b 7) (b 11) (bo 2) (so 2) (nn 2) ++ zSH x (b 8) (b 12) (bo 3) (so 3) (nn 3)))) hx hb hml hown hts hl.1 hK hE hA lkX5_236 (c_X1_put x (b 5) (b 9) (bo 0) (so 0) (nn 0) j v (by omega) hlt) ⟨Nat.le_of_ble_eq_true rfl, Nat.le_of_ble_eq_true rfl⟩ ⟨Nat.zero_le _, Nat.zero_le _⟩ hw 0 0 rfl rfl rfl rfl (Nat.le_of_ble_eq_true rfl) dX5_write_72 (fun H locs hw => ?_)
        have hw : zHw x A s.heap (zHW x b t S l0 T l1 K l2 ik fd tb tq bo so (zUL nn 0 j (zna (bo 0) v))) H locs := hw
        refine lv_lload hx hb dX5_write_75 (lv_at hl 0 rfl) ?_
        exact zFG.lret hx hb hr hlocks hQ hw rfl dX5_write_77 (by rw [show zm_write bo so nn fd 0 (nI j) v = ((nn 0) j, zUL nn 0 j (zna (bo 0) v), fd) from (by unfold zm_write; rw [if_pos (by decide), show zc (0 : Int32) = 0 from rfl, if_neg c25, if_pos c48, zc_nI (show j < 2147483648 by omega)])]; exact ⟨rfl, rfl⟩)
      · have c48 := zb_0.mp c48
        refine lv_aload_n hx hb dX5_write_51 rfl (lv_at hl 1 rfl) ?_
        refine lv_ldc (v := (-1000000001)) hx hb hown (hts _ ckX5_51) dX5_write_52 ?_
        refine zcVwi (r := (-1000000001)) hx hb hml hown hts hl.1 hK hE hA lkX5_52 (c_X5_found x b t S l0 T l1 K l2 ik fd tb tq bo so nn (-1000000001) 0 (by decide) (by decide)) ⟨Nat.le_of_ble_eq_true rfl, Nat.le_of_ble_eq_true rfl⟩ ⟨Nat.zero_le _, Nat.zero_le _⟩ hw 0 3 rfl rfl rfl rfl (Nat.le_of_ble_eq_true rfl) dX5_write_54 (fun H locs hw => ?_)
        have hw : zHw x A s.heap (zHW x b t S l0 T l1 K l2 ik (upd fd 0 (fd 0 + 1)) tb tq bo so nn) H locs := hw
        refine lv_i2l hx hb dX5_write_57 rfl ?_
        exact zFG.lret hx hb hr hlocks hQ hw rfl dX5_write_58 (by rw [show zm_write bo so nn fd 0 vi v = ((-1000000001 : Int32).toInt64, nn, zFd fd 0) from (by unfold zm_write; rw [if_pos (by decide), show zc (0 : Int32) = 0 from rfl, if_neg c25, if_neg c48]; rfl)]; exact ⟨rfl, rfl⟩)
    · have c25 := zb_n0.mp c25
      refine lv_aload_n hx hb dX5_write_28 rfl (lv_at hl 1 rfl) ?_
      refine lv_ldc (v := (-1000000006)) hx hb hown (hts _ ckX5_231) dX5_write_29 ?_
      refine zcVwi (r := (-1000000006)) hx hb hml hown hts hl.1 hK hE hA lkX5_52 (c_X5_found x b t S l0 T l1 K l2 ik fd tb tq bo so nn (-1000000006) 5 (by decide) (by decide)) ⟨Nat.le_of_ble_eq_true rfl, Nat.le_of_ble_eq_true rfl⟩ ⟨Nat.zero_le _, Nat.zero_le _⟩ hw 0 3 rfl rfl rfl rfl (Nat.le_of_ble_eq_true rfl) dX5_write_31 (fun H locs hw => ?_)
      have hw : zHw x A s.heap (zHW x b t S l0 T l1 K l2 ik (upd fd 5 (fd 5 + 1)) tb tq bo so nn) H locs := hw
      refine lv_i2l hx hb dX5_write_34 rfl ?_
      exact zFG.lret hx hb hr hlocks hQ hw rfl dX5_write_35 (by rw [show zm_write bo so nn fd 0 vi v = ((-1000000006 : Int32).toInt64, nn, zFd fd 5) from (by unfold zm_write; rw [if_pos (by decide), show zc (0 : Int32) = 0 from rfl, if_pos c25]; rfl)]; exact ⟨rfl, rfl⟩)
  · refine lv_aload_n hx hb dX5_write_0 rfl (lv_at hl 0 rfl) ?_
    refine lv_iload_n hx hb dX5_write_1 rfl (lv_at hl 1 rfl) ?_
    refine zcVwa hx hb hml hown hts hl.1 hK hE hA lkX5_219 (c_X5_sheetAt_1 x b t S l0 T l1 K l2 ik fd tb tq bo so nn) ⟨Nat.le_of_ble_eq_true rfl, Nat.le_of_ble_eq_true rfl⟩ ⟨Nat.zero_le _, Nat.zero_le _⟩ hw 0 3 rfl rfl rfl rfl (Nat.le_of_ble_eq_true rfl) dX5_write_2 (fun H locs hw => ?_)
    have hw : zHw x A s.heap (zHW x b t S l0 T l1 K l2 ik fd tb tq bo so nn) H locs := hw
    refine lv_astore (lv' := [(5, .ref (b 6)), (0, .ref (b 0)), (1, .int 1), (2, .int vi), (3, .long v)]) hx hb dX5_write_5 hl (by decide) rfl (fun ls hl => ?_)
    refine lv_aload hx hb dX5_write_7 (lv_at hl 0 rfl) ?_
    refine lv_ifnonnull (tgt := 20) hx hb dX5_write_9 (by decide) ?_
    refine lv_aload hx hb dX5_write_20 (lv_at hl 0 rfl) ?_
    refine zcVmi (r := zb (bo 1 = 0)) (C1 := (zOW x b t ik fd ++ (zTW x (t 0) S l0 ++ (zTW x (t 1) T l1 ++ (zTW x (t 2) K l2 ++ (zPW x b tb tq ++ zSH x (b 5) (b 9) (bo 0) (so 0) (nn 0))))))) (C2 := (zSH x (b 7) (b 11) (bo 2) (so 2) (nn 2) ++ zSH x (b 8) (b 12) (bo 3) (so 3) (nn 3))) hx hb hml hown hts hl.1 hK hE hA lkX5_228 (c_X1_isMissing x (b 6) (b 10) (bo 1) (so 1) (nn 1) ) ⟨Nat.le_of_ble_eq_true rfl, Nat.le_of_ble_eq_true rfl⟩ ⟨Nat.zero_le _, Nat.zero_le _⟩ hw 0 0 rfl rfl rfl rfl (Nat.le_of_ble_eq_true rfl) dX5_write_22 (fun H locs hw => ?_)
    have hw : zHw x A s.heap (zHW x b t S l0 T l1 K l2 ik fd tb tq bo so nn) H locs := hw
    refine lv_if_eq (tgt := 36) hx hb dX5_write_25 (by decide) (fun c25 => ?_) (fun c25 => ?_)
    · have c25 := zb_0.mp c25
      refine lv_iload_n hx hb dX5_write_36 rfl (lv_at hl 3 rfl) ?_
      refine lv_iconst (v := 0) hx hb dX5_write_37 (by decide) ?_
      refine lv_aload hx hb dX5_write_38 (lv_at hl 0 rfl) ?_
      refine gfX5_227 hx hb hown hts hK hw 34 rfl rfl dX5_write_40 ?_
      refine lv_iconst (v := 1) hx hb dX5_write_43 (by decide) ?_
      refine lv_isub hx hb dX5_write_44 ?_
      refine zcSwi (r := zb (0 ≤ vi ∧ vi ≤ (so 1) - 1)) hx hb hml hown hts hl.1 hK hE hA lkX5_44 (c_X5_within x (zHW x b t S l0 T l1 K l2 ik fd tb tq bo so nn) vi 0 ((so 1) - 1)) ⟨Nat.le_of_ble_eq_true rfl, Nat.le_of_ble_eq_true rfl⟩ ⟨Nat.zero_le _, Nat.zero_le _⟩ hw rfl rfl (Nat.le_of_ble_eq_true rfl) dX5_write_45 (fun H locs hw => ?_)
      have hw : zHw x A s.heap (zHW x b t S l0 T l1 K l2 ik fd tb tq bo so nn) H locs := hw
      refine lv_if_ne (tgt := 59) hx hb dX5_write_48 (by decide) (fun c48 => ?_) (fun c48 => ?_)
      · have c48 := zb_n0.mp c48
        obtain ⟨-, n4, hn4, hs4⟩ := hS 1 (by decide)
        obtain ⟨hlt, j, hj, hjn, rfl⟩ := zidx hn4 hs4 c48
        refine lv_aload hx hb dX5_write_59 (lv_at hl 0 rfl) ?_
        refine gfX5_232 hx hb hown hts hK hw 34 rfl rfl dX5_write_61 ?_
        refine lv_iload_n hx hb dX5_write_64 rfl (lv_at hl 3 rfl) ?_
        refine zlal hx hb hK hw 35 1 j rfl rfl rfl (by omega) (by decide) dX5_write_65 ?_
        refine lv_lstore (lv' := [(6, .long ((nn 1) j)), (5, .ref (b 6)), (0, .ref (b 0)), (1, .int 1), (2, .int (nI j)), (3, .long v)]) hx hb dX5_write_66 hl (by decide) rfl (fun ls hl => ?_)
        refine lv_aload hx hb dX5_write_68 (lv_at hl 1 rfl) ?_
        refine lv_iload_n hx hb dX5_write_70 rfl (lv_at hl 4 rfl) ?_
        refine lv_lload_n hx hb dX5_write_71 rfl (lv_at hl 5 rfl) ?_
        refine zcVmv (C1 := (zOW x b t ik fd ++ (zTW x (t 0) S l0 ++ (zTW x (t 1) T l1 ++ (zTW x (t 2) K l2 ++ (zPW x b tb tq ++ zSH x (b 5) (b 9) (bo 0) (so 0) (nn 0))))))) (C2 := (zSH x (b 7) (b 11) (bo 2) (so 2) (nn 2) ++ zSH x (b 8) (b 12) (bo 3) (so 3) (nn 3))) hx hb hml hown hts hl.1 hK hE hA lkX5_236 (c_X1_put x (b 6) (b 10) (bo 1) (so 1) (nn 1) j v (by omega) hlt) ⟨Nat.le_of_ble_eq_true rfl, Nat.le_of_ble_eq_true rfl⟩ ⟨Nat.zero_le _, Nat.zero_le _⟩ hw 0 0 rfl rfl rfl rfl (Nat.le_of_ble_eq_true rfl) dX5_write_72 (fun H locs hw => ?_)
        have hw : zHw x A s.heap (zHW x b t S l0 T l1 K l2 ik fd tb tq bo so (zUL nn 1 j (zna (bo 1) v))) H locs := hw
        refine lv_lload hx hb dX5_write_75 (lv_at hl 0 rfl) ?_
        exact zFG.lret hx hb hr hlocks hQ hw rfl dX5_write_77 (by rw [show zm_write bo so nn fd 1 (nI j) v = ((nn 1) j, zUL nn 1 j (zna (bo 1) v), fd) from (by unfold zm_write; rw [if_pos (by decide), show zc (1 : Int32) = 1 from rfl, if_neg c25, if_pos c48, zc_nI (show j < 2147483648 by omega)])]; exact ⟨rfl, rfl⟩)
      · have c48 := zb_0.mp c48
        refine lv_aload_n hx hb dX5_write_51 rfl (lv_at hl 1 rfl) ?_
        refine lv_ldc (v := (-1000000001)) hx hb hown (hts _ ckX5_51) dX5_write_52 ?_
        refine zcVwi (r := (-1000000001)) hx hb hml hown hts hl.1 hK hE hA lkX5_52 (c_X5_found x b t S l0 T l1 K l2 ik fd tb tq bo so nn (-1000000001) 0 (by decide) (by decide)) ⟨Nat.le_of_ble_eq_true rfl, Nat.le_of_ble_eq_true rfl⟩ ⟨Nat.zero_le _, Nat.zero_le _⟩ hw 0 3 rfl rfl rfl rfl (Nat.le_of_ble_eq_true rfl) dX5_write_54 (fun H locs hw => ?_)
        have hw : zHw x A s.heap (zHW x b t S l0 T l1 K l2 ik (upd fd 0 (fd 0 + 1)) tb tq bo so nn) H locs := hw
        refine lv_i2l hx hb dX5_write_57 rfl ?_
        exact zFG.lret hx hb hr hlocks hQ hw rfl dX5_write_58 (by rw [show zm_write bo so nn fd 1 vi v = ((-1000000001 : Int32).toInt64, nn, zFd fd 0) from (by unfold zm_write; rw [if_pos (by decide), show zc (1 : Int32) = 1 from rfl, if_neg c25, if_neg c48]; rfl)]; exact ⟨rfl, rfl⟩)
    · have c25 := zb_n0.mp c25
      refine lv_aload_n hx hb dX5_write_28 rfl (lv_at hl 1 rfl) ?_
      refine lv_ldc (v := (-1000000006)) hx hb hown (hts _ ckX5_231) dX5_write_29 ?_
      refine zcVwi (r := (-1000000006)) hx hb hml hown hts hl.1 hK hE hA lkX5_52 (c_X5_found x b t S l0 T l1 K l2 ik fd tb tq bo so nn (-1000000006) 5 (by decide) (by decide)) ⟨Nat.le_of_ble_eq_true rfl, Nat.le_of_ble_eq_true rfl⟩ ⟨Nat.zero_le _, Nat.zero_le _⟩ hw 0 3 rfl rfl rfl rfl (Nat.le_of_ble_eq_true rfl) dX5_write_31 (fun H locs hw => ?_)
      have hw : zHw x A s.heap (zHW x b t S l0 T l1 K l2 ik (upd fd 5 (fd 5 + 1)) tb tq bo so nn) H locs := hw
      refine lv_i2l hx hb dX5_write_34 rfl ?_
      exact zFG.lret hx hb hr hlocks hQ hw rfl dX5_write_35 (by rw [show zm_write bo so nn fd 1 vi v = ((-1000000006 : Int32).toInt64, nn, zFd fd 5) from (by unfold zm_write; rw [if_pos (by decide), show zc (1 : Int32) = 1 from rfl, if_pos c25]; rfl)]; exact ⟨rfl, rfl⟩)
  · refine lv_aload_n hx hb dX5_write_0 rfl (lv_at hl 0 rfl) ?_
    refine lv_iload_n hx hb dX5_write_1 rfl (lv_at hl 1 rfl) ?_
    refine zcVwa hx hb hml hown hts hl.1 hK hE hA lkX5_219 (c_X5_sheetAt_2 x b t S l0 T l1 K l2 ik fd tb tq bo so nn) ⟨Nat.le_of_ble_eq_true rfl, Nat.le_of_ble_eq_true rfl⟩ ⟨Nat.zero_le _, Nat.zero_le _⟩ hw 0 3 rfl rfl rfl rfl (Nat.le_of_ble_eq_true rfl) dX5_write_2 (fun H locs hw => ?_)
    have hw : zHw x A s.heap (zHW x b t S l0 T l1 K l2 ik fd tb tq bo so nn) H locs := hw
    refine lv_astore (lv' := [(5, .ref (b 7)), (0, .ref (b 0)), (1, .int 2), (2, .int vi), (3, .long v)]) hx hb dX5_write_5 hl (by decide) rfl (fun ls hl => ?_)
    refine lv_aload hx hb dX5_write_7 (lv_at hl 0 rfl) ?_
    refine lv_ifnonnull (tgt := 20) hx hb dX5_write_9 (by decide) ?_
    refine lv_aload hx hb dX5_write_20 (lv_at hl 0 rfl) ?_
    refine zcVmi (r := zb (bo 2 = 0)) (C1 := (zOW x b t ik fd ++ (zTW x (t 0) S l0 ++ (zTW x (t 1) T l1 ++ (zTW x (t 2) K l2 ++ (zPW x b tb tq ++ (zSH x (b 5) (b 9) (bo 0) (so 0) (nn 0) ++ zSH x (b 6) (b 10) (bo 1) (so 1) (nn 1)))))))) (C2 := (zSH x (b 8) (b 12) (bo 3) (so 3) (nn 3))) hx hb hml hown hts hl.1 hK hE hA lkX5_228 (c_X1_isMissing x (b 7) (b 11) (bo 2) (so 2) (nn 2) ) ⟨Nat.le_of_ble_eq_true rfl, Nat.le_of_ble_eq_true rfl⟩ ⟨Nat.zero_le _, Nat.zero_le _⟩ hw 0 0 rfl rfl rfl rfl (Nat.le_of_ble_eq_true rfl) dX5_write_22 (fun H locs hw => ?_)
    have hw : zHw x A s.heap (zHW x b t S l0 T l1 K l2 ik fd tb tq bo so nn) H locs := hw
    refine lv_if_eq (tgt := 36) hx hb dX5_write_25 (by decide) (fun c25 => ?_) (fun c25 => ?_)
    · have c25 := zb_0.mp c25
      refine lv_iload_n hx hb dX5_write_36 rfl (lv_at hl 3 rfl) ?_
      refine lv_iconst (v := 0) hx hb dX5_write_37 (by decide) ?_
      refine lv_aload hx hb dX5_write_38 (lv_at hl 0 rfl) ?_
      refine gfX5_227 hx hb hown hts hK hw 36 rfl rfl dX5_write_40 ?_
      refine lv_iconst (v := 1) hx hb dX5_write_43 (by decide) ?_
      refine lv_isub hx hb dX5_write_44 ?_
      refine zcSwi (r := zb (0 ≤ vi ∧ vi ≤ (so 2) - 1)) hx hb hml hown hts hl.1 hK hE hA lkX5_44 (c_X5_within x (zHW x b t S l0 T l1 K l2 ik fd tb tq bo so nn) vi 0 ((so 2) - 1)) ⟨Nat.le_of_ble_eq_true rfl, Nat.le_of_ble_eq_true rfl⟩ ⟨Nat.zero_le _, Nat.zero_le _⟩ hw rfl rfl (Nat.le_of_ble_eq_true rfl) dX5_write_45 (fun H locs hw => ?_)
      have hw : zHw x A s.heap (zHW x b t S l0 T l1 K l2 ik fd tb tq bo so nn) H locs := hw
      refine lv_if_ne (tgt := 59) hx hb dX5_write_48 (by decide) (fun c48 => ?_) (fun c48 => ?_)
      · have c48 := zb_n0.mp c48
        obtain ⟨-, n4, hn4, hs4⟩ := hS 2 (by decide)
        obtain ⟨hlt, j, hj, hjn, rfl⟩ := zidx hn4 hs4 c48
        refine lv_aload hx hb dX5_write_59 (lv_at hl 0 rfl) ?_
        refine gfX5_232 hx hb hown hts hK hw 36 rfl rfl dX5_write_61 ?_
        refine lv_iload_n hx hb dX5_write_64 rfl (lv_at hl 3 rfl) ?_
        refine zlal hx hb hK hw 37 1 j rfl rfl rfl (by omega) (by decide) dX5_write_65 ?_
        refine lv_lstore (lv' := [(6, .long ((nn 2) j)), (5, .ref (b 7)), (0, .ref (b 0)), (1, .int 2), (2, .int (nI j)), (3, .long v)]) hx hb dX5_write_66 hl (by decide) rfl (fun ls hl => ?_)
        refine lv_aload hx hb dX5_write_68 (lv_at hl 1 rfl) ?_
        refine lv_iload_n hx hb dX5_write_70 rfl (lv_at hl 4 rfl) ?_
        refine lv_lload_n hx hb dX5_write_71 rfl (lv_at hl 5 rfl) ?_
        refine zcVmv (C1 := (zOW x b t ik fd ++ (zTW x (t 0) S l0 ++ (zTW x (t 1) T l1 ++ (zTW x (t 2) K l2 ++ (zPW x b tb tq ++ (zSH x (b 5) (b 9) (bo 0) (so 0) (nn 0) ++ zSH x (b 6) (b 10) (bo 1) (so 1) (nn 1)))))))) (C2 := (zSH x (b 8) (b 12) (bo 3) (so 3) (nn 3))) hx hb hml hown hts hl.1 hK hE hA lkX5_236 (c_X1_put x (b 7) (b 11) (bo 2) (so 2) (nn 2) j v (by omega) hlt) ⟨Nat.le_of_ble_eq_true rfl, Nat.le_of_ble_eq_true rfl⟩ ⟨Nat.zero_le _, Nat.zero_le _⟩ hw 0 0 rfl rfl rfl rfl (Nat.le_of_ble_eq_true rfl) dX5_write_72 (fun H locs hw => ?_)
        have hw : zHw x A s.heap (zHW x b t S l0 T l1 K l2 ik fd tb tq bo so (zUL nn 2 j (zna (bo 2) v))) H locs := hw
        refine lv_lload hx hb dX5_write_75 (lv_at hl 0 rfl) ?_
        exact zFG.lret hx hb hr hlocks hQ hw rfl dX5_write_77 (by rw [show zm_write bo so nn fd 2 (nI j) v = ((nn 2) j, zUL nn 2 j (zna (bo 2) v), fd) from (by unfold zm_write; rw [if_pos (by decide), show zc (2 : Int32) = 2 from rfl, if_neg c25, if_pos c48, zc_nI (show j < 2147483648 by omega)])]; exact ⟨rfl, rfl⟩)
      · have c48 := zb_0.mp c48
        refine lv_aload_n hx hb dX5_write_51 rfl (lv_at hl 1 rfl) ?_
        refine lv_ldc (v := (-1000000001)) hx hb hown (hts _ ckX5_51) dX5_write_52 ?_
        refine zcVwi (r := (-1000000001)) hx hb hml hown hts hl.1 hK hE hA lkX5_52 (c_X5_found x b t S l0 T l1 K l2 ik fd tb tq bo so nn (-1000000001) 0 (by decide) (by decide)) ⟨Nat.le_of_ble_eq_true rfl, Nat.le_of_ble_eq_true rfl⟩ ⟨Nat.zero_le _, Nat.zero_le _⟩ hw 0 3 rfl rfl rfl rfl (Nat.le_of_ble_eq_true rfl) dX5_write_54 (fun H locs hw => ?_)
        have hw : zHw x A s.heap (zHW x b t S l0 T l1 K l2 ik (upd fd 0 (fd 0 + 1)) tb tq bo so nn) H locs := hw
        refine lv_i2l hx hb dX5_write_57 rfl ?_
        exact zFG.lret hx hb hr hlocks hQ hw rfl dX5_write_58 (by rw [show zm_write bo so nn fd 2 vi v = ((-1000000001 : Int32).toInt64, nn, zFd fd 0) from (by unfold zm_write; rw [if_pos (by decide), show zc (2 : Int32) = 2 from rfl, if_neg c25, if_neg c48]; rfl)]; exact ⟨rfl, rfl⟩)
    · have c25 := zb_n0.mp c25
      refine lv_aload_n hx hb dX5_write_28 rfl (lv_at hl 1 rfl) ?_
      refine lv_ldc (v := (-1000000006)) hx hb hown (hts _ ckX5_231) dX5_write_29 ?_
      refine zcVwi (r := (-1000000006)) hx hb hml hown hts hl.1 hK hE hA lkX5_52 (c_X5_found x b t S l0 T l1 K l2 ik fd tb tq bo so nn (-1000000006) 5 (by decide) (by decide)) ⟨Nat.le_of_ble_eq_true rfl, Nat.le_of_ble_eq_true rfl⟩ ⟨Nat.zero_le _, Nat.zero_le _⟩ hw 0 3 rfl rfl rfl rfl (Nat.le_of_ble_eq_true rfl) dX5_write_31 (fun H locs hw => ?_)
      have hw : zHw x A s.heap (zHW x b t S l0 T l1 K l2 ik (upd fd 5 (fd 5 + 1)) tb tq bo so nn) H locs := hw
      refine lv_i2l hx hb dX5_write_34 rfl ?_
      exact zFG.lret hx hb hr hlocks hQ hw rfl dX5_write_35 (by rw [show zm_write bo so nn fd 2 vi v = ((-1000000006 : Int32).toInt64, nn, zFd fd 5) from (by unfold zm_write; rw [if_pos (by decide), show zc (2 : Int32) = 2 from rfl, if_pos c25]; rfl)]; exact ⟨rfl, rfl⟩)
  · refine lv_aload_n hx hb dX5_write_0 rfl (lv_at hl 0 rfl) ?_
    refine lv_iload_n hx hb dX5_write_1 rfl (lv_at hl 1 rfl) ?_
    refine zcVwa hx hb hml hown hts hl.1 hK hE hA lkX5_219 (c_X5_sheetAt_3 x b t S l0 T l1 K l2 ik fd tb tq bo so nn) ⟨Nat.le_of_ble_eq_true rfl, Nat.le_of_ble_eq_true rfl⟩ ⟨Nat.zero_le _, Nat.zero_le _⟩ hw 0 3 rfl rfl rfl rfl (Nat.le_of_ble_eq_true rfl) dX5_write_2 (fun H locs hw => ?_)
    have hw : zHw x A s.heap (zHW x b t S l0 T l1 K l2 ik fd tb tq bo so nn) H locs := hw
    refine lv_astore (lv' := [(5, .ref (b 8)), (0, .ref (b 0)), (1, .int 3), (2, .int vi), (3, .long v)]) hx hb dX5_write_5 hl (by decide) rfl (fun ls hl => ?_)
    refine lv_aload hx hb dX5_write_7 (lv_at hl 0 rfl) ?_
    refine lv_ifnonnull (tgt := 20) hx hb dX5_write_9 (by decide) ?_
    refine lv_aload hx hb dX5_write_20 (lv_at hl 0 rfl) ?_
    refine zcVmi (r := zb (bo 3 = 0)) (C1 := (zOW x b t ik fd ++ (zTW x (t 0) S l0 ++ (zTW x (t 1) T l1 ++ (zTW x (t 2) K l2 ++ (zPW x b tb tq ++ (zSH x (b 5) (b 9) (bo 0) (so 0) (nn 0) ++ (zSH x (b 6) (b 10) (bo 1) (so 1) (nn 1) ++ zSH x (b 7) (b 11) (bo 2) (so 2) (nn 2))))))))) (C2 := []) hx hb hml hown hts hl.1 hK hE hA lkX5_228 (c_X1_isMissing x (b 8) (b 12) (bo 3) (so 3) (nn 3) ) ⟨Nat.le_of_ble_eq_true rfl, Nat.le_of_ble_eq_true rfl⟩ ⟨Nat.zero_le _, Nat.zero_le _⟩ hw 0 0 rfl rfl rfl rfl (Nat.le_of_ble_eq_true rfl) dX5_write_22 (fun H locs hw => ?_)
    have hw : zHw x A s.heap (zHW x b t S l0 T l1 K l2 ik fd tb tq bo so nn) H locs := hw
    refine lv_if_eq (tgt := 36) hx hb dX5_write_25 (by decide) (fun c25 => ?_) (fun c25 => ?_)
    · have c25 := zb_0.mp c25
      refine lv_iload_n hx hb dX5_write_36 rfl (lv_at hl 3 rfl) ?_
      refine lv_iconst (v := 0) hx hb dX5_write_37 (by decide) ?_
      refine lv_aload hx hb dX5_write_38 (lv_at hl 0 rfl) ?_
      refine gfX5_227 hx hb hown hts hK hw 38 rfl rfl dX5_write_40 ?_
      refine lv_iconst (v := 1) hx hb dX5_write_43 (by decide) ?_
      refine lv_isub hx hb dX5_write_44 ?_
      refine zcSwi (r := zb (0 ≤ vi ∧ vi ≤ (so 3) - 1)) hx hb hml hown hts hl.1 hK hE hA lkX5_44 (c_X5_within x (zHW x b t S l0 T l1 K l2 ik fd tb tq bo so nn) vi 0 ((so 3) - 1)) ⟨Nat.le_of_ble_eq_true rfl, Nat.le_of_ble_eq_true rfl⟩ ⟨Nat.zero_le _, Nat.zero_le _⟩ hw rfl rfl (Nat.le_of_ble_eq_true rfl) dX5_write_45 (fun H locs hw => ?_)
      have hw : zHw x A s.heap (zHW x b t S l0 T l1 K l2 ik fd tb tq bo so nn) H locs := hw
      refine lv_if_ne (tgt := 59) hx hb dX5_write_48 (by decide) (fun c48 => ?_) (fun c48 => ?_)
      · have c48 := zb_n0.mp c48
        obtain ⟨-, n4, hn4, hs4⟩ := hS 3 (by decide)
        obtain ⟨hlt, j, hj, hjn, rfl⟩ := zidx hn4 hs4 c48
        refine lv_aload hx hb dX5_write_59 (lv_at hl 0 rfl) ?_
        refine gfX5_232 hx hb hown hts hK hw 38 rfl rfl dX5_write_61 ?_
        refine lv_iload_n hx hb dX5_write_64 rfl (lv_at hl 3 rfl) ?_
        refine zlal hx hb hK hw 39 1 j rfl rfl rfl (by omega) (by decide) dX5_write_65 ?_
        refine lv_lstore (lv' := [(6, .long ((nn 3) j)), (5, .ref (b 8)), (0, .ref (b 0)), (1, .int 3), (2, .int (nI j)), (3, .long v)]) hx hb dX5_write_66 hl (by decide) rfl (fun ls hl => ?_)
        refine lv_aload hx hb dX5_write_68 (lv_at hl 1 rfl) ?_
        refine lv_iload_n hx hb dX5_write_70 rfl (lv_at hl 4 rfl) ?_
        refine lv_lload_n hx hb dX5_write_71 rfl (lv_at hl 5 rfl) ?_
        refine zcVmv (C1 := (zOW x b t ik fd ++ (zTW x (t 0) S l0 ++ (zTW x (t 1) T l1 ++ (zTW x (t 2) K l2 ++ (zPW x b tb tq ++ (zSH x (b 5) (b 9) (bo 0) (so 0) (nn 0) ++ (zSH x (b 6) (b 10) (bo 1) (so 1) (nn 1) ++ zSH x (b 7) (b 11) (bo 2) (so 2) (nn 2))))))))) (C2 := []) hx hb hml hown hts hl.1 hK hE hA lkX5_236 (c_X1_put x (b 8) (b 12) (bo 3) (so 3) (nn 3) j v (by omega) hlt) ⟨Nat.le_of_ble_eq_true rfl, Nat.le_of_ble_eq_true rfl⟩ ⟨Nat.zero_le _, Nat.zero_le _⟩ hw 0 0 rfl rfl rfl rfl (Nat.le_of_ble_eq_true rfl) dX5_write_72 (fun H locs hw => ?_)
        have hw : zHw x A s.heap (zHW x b t S l0 T l1 K l2 ik fd tb tq bo so (zUL nn 3 j (zna (bo 3) v))) H locs := hw
        refine lv_lload hx hb dX5_write_75 (lv_at hl 0 rfl) ?_
        exact zFG.lret hx hb hr hlocks hQ hw rfl dX5_write_77 (by rw [show zm_write bo so nn fd 3 (nI j) v = ((nn 3) j, zUL nn 3 j (zna (bo 3) v), fd) from (by unfold zm_write; rw [if_pos (by decide), show zc (3 : Int32) = 3 from rfl, if_neg c25, if_pos c48, zc_nI (show j < 2147483648 by omega)])]; exact ⟨rfl, rfl⟩)
      · have c48 := zb_0.mp c48
        refine lv_aload_n hx hb dX5_write_51 rfl (lv_at hl 1 rfl) ?_
        refine lv_ldc (v := (-1000000001)) hx hb hown (hts _ ckX5_51) dX5_write_52 ?_
        refine zcVwi (r := (-1000000001)) hx hb hml hown hts hl.1 hK hE hA lkX5_52 (c_X5_found x b t S l0 T l1 K l2 ik fd tb tq bo so nn (-1000000001) 0 (by decide) (by decide)) ⟨Nat.le_of_ble_eq_true rfl, Nat.le_of_ble_eq_true rfl⟩ ⟨Nat.zero_le _, Nat.zero_le _⟩ hw 0 3 rfl rfl rfl rfl (Nat.le_of_ble_eq_true rfl) dX5_write_54 (fun H locs hw => ?_)
        have hw : zHw x A s.heap (zHW x b t S l0 T l1 K l2 ik (upd fd 0 (fd 0 + 1)) tb tq bo so nn) H locs := hw
        refine lv_i2l hx hb dX5_write_57 rfl ?_
        exact zFG.lret hx hb hr hlocks hQ hw rfl dX5_write_58 (by rw [show zm_write bo so nn fd 3 vi v = ((-1000000001 : Int32).toInt64, nn, zFd fd 0) from (by unfold zm_write; rw [if_pos (by decide), show zc (3 : Int32) = 3 from rfl, if_neg c25, if_neg c48]; rfl)]; exact ⟨rfl, rfl⟩)
    · have c25 := zb_n0.mp c25
      refine lv_aload_n hx hb dX5_write_28 rfl (lv_at hl 1 rfl) ?_
      refine lv_ldc (v := (-1000000006)) hx hb hown (hts _ ckX5_231) dX5_write_29 ?_
      refine zcVwi (r := (-1000000006)) hx hb hml hown hts hl.1 hK hE hA lkX5_52 (c_X5_found x b t S l0 T l1 K l2 ik fd tb tq bo so nn (-1000000006) 5 (by decide) (by decide)) ⟨Nat.le_of_ble_eq_true rfl, Nat.le_of_ble_eq_true rfl⟩ ⟨Nat.zero_le _, Nat.zero_le _⟩ hw 0 3 rfl rfl rfl rfl (Nat.le_of_ble_eq_true rfl) dX5_write_31 (fun H locs hw => ?_)
      have hw : zHw x A s.heap (zHW x b t S l0 T l1 K l2 ik (upd fd 5 (fd 5 + 1)) tb tq bo so nn) H locs := hw
      refine lv_i2l hx hb dX5_write_34 rfl ?_
      exact zFG.lret hx hb hr hlocks hQ hw rfl dX5_write_35 (by rw [show zm_write bo so nn fd 3 vi v = ((-1000000006 : Int32).toInt64, nn, zFd fd 5) from (by unfold zm_write; rw [if_pos (by decide), show zc (3 : Int32) = 3 from rfl, if_pos c25]; rfl)]; exact ⟨rfl, rfl⟩)
  · refine lv_aload_n hx hb dX5_write_0 rfl (lv_at hl 0 rfl) ?_
    refine lv_iload_n hx hb dX5_write_1 rfl (lv_at hl 1 rfl) ?_
    refine zcVwa hx hb hml hown hts hl.1 hK hE hA lkX5_219 (c_X5_sheetAt_no x b t S l0 T l1 K l2 ik fd tb tq bo so nn y hno) ⟨Nat.le_of_ble_eq_true rfl, Nat.le_of_ble_eq_true rfl⟩ ⟨Nat.zero_le _, Nat.zero_le _⟩ hw 0 3 rfl rfl rfl rfl (Nat.le_of_ble_eq_true rfl) dX5_write_2 (fun H locs hw => ?_)
    have hw : zHw x A s.heap (zHW x b t S l0 T l1 K l2 ik fd tb tq bo so nn) H locs := hw
    refine lv_astoreN (lv' := [(5, Value.null), (0, .ref (b 0)), (1, .int y), (2, .int vi), (3, .long v)]) hx hb dX5_write_5 hl (by decide) rfl (fun ls hl => ?_)
    refine lv_aloadN hx hb dX5_write_7 (lv_at hl 0 rfl) ?_
    refine lv_ifnonnullN hx hb dX5_write_9 ?_
    refine lv_aload_n hx hb dX5_write_12 rfl (lv_at hl 1 rfl) ?_
    refine lv_ldc (v := (-1000000001)) hx hb hown (hts _ ckX5_51) dX5_write_13 ?_
    refine zcVwi (r := (-1000000001)) hx hb hml hown hts hl.1 hK hE hA lkX5_52 (c_X5_found x b t S l0 T l1 K l2 ik fd tb tq bo so nn (-1000000001) 0 (by decide) (by decide)) ⟨Nat.le_of_ble_eq_true rfl, Nat.le_of_ble_eq_true rfl⟩ ⟨Nat.zero_le _, Nat.zero_le _⟩ hw 0 3 rfl rfl rfl rfl (Nat.le_of_ble_eq_true rfl) dX5_write_15 (fun H locs hw => ?_)
    have hw : zHw x A s.heap (zHW x b t S l0 T l1 K l2 ik (upd fd 0 (fd 0 + 1)) tb tq bo so nn) H locs := hw
    refine lv_i2l hx hb dX5_write_18 rfl ?_
    exact zFG.lret hx hb hr hlocks hQ hw rfl dX5_write_19 (by rw [show zm_write bo so nn fd y vi v = ((-1000000001 : Int32).toInt64, nn, zFd fd 0) from (by unfold zm_write; rw [if_neg hno]; rfl)]; exact ⟨rfl, rfl⟩)
