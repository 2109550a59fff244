set_option maxHeartbeats 4000000 in
set_option maxRecDepth 100000 in
theorem c_X6_in (x : zX) (w : va_W) (v lo hi : Int64) : zFF x mX6_in 0 [.long v, .long lo, .long hi] (w) (some (.int (zb (lo ≤ v ∧ v ≤ hi)))) (w) := by
  refine zFG.start RX6 cX6_in 6 (some .boolean) rfl rfl (by decide +kernel) (Nat.le_of_ble_eq_true rfl) ?_
  intro p e s m ar below meth c ls A Q hx hb hr hml hown hts hlocks hK hE hA hQ hl hw
  have hl : lv_has ls 6 [(0, .long v), (2, .long lo), (4, .long hi)] := hl
  have hw : zHw x A s.heap (w) s.heap [] := hw
  refine lv_lload_n hx hb dX6_in_0 rfl (lv_at hl 0 rfl) ?_
  refine lv_lload_n hx hb dX6_in_1 rfl (lv_at hl 1 rfl) ?_
  refine W.lcmp hx hb dX6_in_2 ?_
  refine lv_if_lt (tgt := 17) hx hb dX6_in_3 (by decide) (fun c3 => ?_) (fun c3 => ?_)
  · have c3 := (lg_cmp_lt _ _).mp c3
    refine lv_iconst (v := 0) hx hb dX6_in_17 (by decide) ?_
    exact zFG.zret hx hb hr hlocks hQ hw rfl dX6_in_18 (by decide) ⟨zsi (by first | (symm; exact zb_t ⟨Int64.not_lt.mp c3, Int64.not_lt.mp c10⟩) | (symm; exact zb_f (fun h => absurd h.2 (Int64.not_le.mpr c10))) | (symm; exact zb_f (fun h => absurd h.1 (Int64.not_le.mpr c3)))), rfl⟩
  · have c3 := fun h => c3 ((lg_cmp_lt _ _).mpr h)
    refine lv_lload_n hx hb dX6_in_6 rfl (lv_at hl 0 rfl) ?_
    refine lv_lload hx hb dX6_in_7 (lv_at hl 2 rfl) ?_
    refine W.lcmp hx hb dX6_in_9 ?_
    refine lv_if_gt (tgt := 17) hx hb dX6_in_10 (by decide) (fun c10 => ?_) (fun c10 => ?_)
    · have c10 := (lg_cmp_gt _ _).mp c10
      refine lv_iconst (v := 0) hx hb dX6_in_17 (by decide) ?_
      exact zFG.zret hx hb hr hlocks hQ hw rfl dX6_in_18 (by decide) ⟨zsi (by first | (symm; exact zb_t ⟨Int64.not_lt.mp c3, Int64.not_lt.mp c10⟩) | (symm; exact zb_f (fun h => absurd h.2 (Int64.not_le.mpr c10))) | (symm; exact zb_f (fun h => absurd h.1 (Int64.not_le.mpr c3)))), rfl⟩
    · have c10 := fun h => c10 ((lg_cmp_gt _ _).mpr h)
      refine lv_iconst (v := 1) hx hb dX6_in_13 (by decide) ?_
      refine lv_goto (tgt := 18) hx hb dX6_in_14 (by decide) ?_
      exact zFG.zret hx hb hr hlocks hQ hw rfl dX6_in_18 (by decide) ⟨zsi (by first | (symm; exact zb_t ⟨Int64.not_lt.mp c3, Int64.not_lt.mp c10⟩) | (symm; exact zb_f (fun h => absurd h.2 (Int64.not_le.mpr c10))) | (symm; exact zb_f (fun h => absurd h.1 (Int64.not_le.mpr c3)))), rfl⟩

set_option maxHeartbeats 4000000 in
set_option maxRecDepth 100000 in
theorem c_X6_isStreet (x : zX) (w : va_W) (v : Int32) : zFF x mX6_isStreet 1 [.int v] (w) (some (.int (zb (0 ≤ v ∧ v < 6)))) (w) := by
  refine zFG.start RX6 cX6_isStreet 1 (some .boolean) rfl rfl (by decide +kernel) (Nat.le_of_ble_eq_true rfl) ?_
  intro p e s m ar below meth c ls A Q hx hb hr hml hown hts hlocks hK hE hA hQ hl hw
  have hl : lv_has ls 1 [(0, .int v)] := hl
  have hw : zHw x A s.heap (w) s.heap [] := hw
  refine lv_iload_n hx hb dX6_isStreet_0 rfl (lv_at hl 0 rfl) ?_
  refine lv_i2l hx hb dX6_isStreet_1 rfl ?_
  refine lv_lconst (v := 0) hx hb dX6_isStreet_2 (by decide) ?_
  refine lv_ldc2 (v := 5) hx hb hown (hts _ ckX6_46) dX6_isStreet_3 ?_
  refine zcSwi (r := zb ((0 : Int64) ≤ v.toInt64 ∧ v.toInt64 ≤ 5)) hx hb hml hown hts hl.1 hK hE hA lkX6_48 (c_X6_in x (w) v.toInt64 0 5) ⟨Nat.le_of_ble_eq_true rfl, Nat.le_of_ble_eq_true rfl⟩ ⟨Nat.zero_le _, Nat.zero_le _⟩ hw rfl rfl (Nat.le_of_ble_eq_true rfl) dX6_isStreet_6 (fun H locs hw => ?_)
  have hw : zHw x A s.heap (w) H locs := hw
  exact zFG.zret hx hb hr hlocks hQ hw rfl dX6_isStreet_9 (zb2i_nar _) ⟨zsi (zb_iff ⟨fun h => ⟨(zwle 0 v).mp h.1, Int32.lt_iff_toInt_lt.mpr (by have := Int32.le_iff_toInt_le.mp ((zwle v 5).mp h.2); have e : (5 : Int32).toInt = 5 := rfl; have e6 : (6 : Int32).toInt = 6 := rfl; omega)⟩, fun h => ⟨(zwle 0 v).mpr h.1, (zwle v 5).mpr (Int32.le_iff_toInt_le.mpr (by have := Int32.lt_iff_toInt_lt.mp h.2; have e : (5 : Int32).toInt = 5 := rfl; have e6 : (6 : Int32).toInt = 6 := rfl; omega))⟩⟩), rfl⟩

set_option maxHeartbeats 4000000 in
set_option maxRecDepth 100000 in
theorem c_X6_isKind (x : zX) (w : va_W) (v : Int32) : zFF x mX6_isKind 1 [.int v] (w) (some (.int (zb (0 ≤ v ∧ v < 6)))) (w) := by
  refine zFG.start RX6 cX6_isKind 1 (some .boolean) rfl rfl (by decide +kernel) (Nat.le_of_ble_eq_true rfl) ?_
  intro p e s m ar below meth c ls A Q hx hb hr hml hown hts hlocks hK hE hA hQ hl hw
  have hl : lv_has ls 1 [(0, .int v)] := hl
  have hw : zHw x A s.heap (w) s.heap [] := hw
  refine lv_iload_n hx hb dX6_isKind_0 rfl (lv_at hl 0 rfl) ?_
  refine lv_i2l hx hb dX6_isKind_1 rfl ?_
  refine lv_lconst (v := 0) hx hb dX6_isKind_2 (by decide) ?_
  refine lv_ldc2 (v := 5) hx hb hown (hts _ ckX6_46) dX6_isKind_3 ?_
  refine zcSwi (r := zb ((0 : Int64) ≤ v.toInt64 ∧ v.toInt64 ≤ 5)) hx hb hml hown hts hl.1 hK hE hA lkX6_48 (c_X6_in x (w) v.toInt64 0 5) ⟨Nat.le_of_ble_eq_true rfl, Nat.le_of_ble_eq_true rfl⟩ ⟨Nat.zero_le _, Nat.zero_le _⟩ hw rfl rfl (Nat.le_of_ble_eq_true rfl) dX6_isKind_6 (fun H locs hw => ?_)
  have hw : zHw x A s.heap (w) H locs := hw
  exact zFG.zret hx hb hr hlocks hQ hw rfl dX6_isKind_9 (zb2i_nar _) ⟨zsi (zb_iff ⟨fun h => ⟨(zwle 0 v).mp h.1, Int32.lt_iff_toInt_lt.mpr (by have := Int32.le_iff_toInt_le.mp ((zwle v 5).mp h.2); have e : (5 : Int32).toInt = 5 := rfl; have e6 : (6 : Int32).toInt = 6 := rfl; omega)⟩, fun h => ⟨(zwle 0 v).mpr h.1, (zwle v 5).mpr (Int32.le_iff_toInt_le.mpr (by have := Int32.lt_iff_toInt_lt.mp h.2; have e : (5 : Int32).toInt = 5 := rfl; have e6 : (6 : Int32).toInt = 6 := rfl; omega))⟩⟩), rfl⟩

set_option maxHeartbeats 4000000 in
set_option maxRecDepth 100000 in
theorem c_X6_spotOf (x : zX) (w : va_W) (h k : Nat) : zFF x mX6_spotOf 0 [.int (nI h), .int (nI k)] (w) (some (.int (nI (19 + 6 * h + k)))) (w) := by
  refine zFG.start RX6 cX6_spotOf 2 (some .int) rfl rfl (by decide +kernel) (Nat.le_of_ble_eq_true rfl) ?_
  intro p e s m ar below meth c ls A Q hx hb hr hml hown hts hlocks hK hE hA hQ hl hw
  have hl : lv_has ls 2 [(0, .int (nI h)), (1, .int (nI k))] := hl
  have hw : zHw x A s.heap (w) s.heap [] := hw
  refine lv_bipush (v := 19) hx hb dX6_spotOf_0 (by decide) ?_
  refine lv_bipush (v := 6) hx hb dX6_spotOf_2 (by decide) ?_
  refine lv_iload_n hx hb dX6_spotOf_4 rfl (lv_at hl 0 rfl) ?_
  refine lv_imul hx hb dX6_spotOf_5 ?_
  refine lv_iadd hx hb dX6_spotOf_6 ?_
  refine lv_iload_n hx hb dX6_spotOf_7 rfl (lv_at hl 1 rfl) ?_
  refine lv_iadd hx hb dX6_spotOf_8 ?_
  exact zFG.iret hx hb hr hlocks hQ hw rfl dX6_spotOf_9 ⟨zsi (zspot h k), rfl⟩

set_option maxHeartbeats 4000000 in
set_option maxRecDepth 100000 in
theorem c_X6_roadOf (x : zX) (w : va_W) (r k : Nat) : zFF x mX6_roadOf 0 [.int (nI r), .int (nI k)] (w) (some (.int (nI (7 + 2 * r + k)))) (w) := by
  refine zFG.start RX6 cX6_roadOf 2 (some .int) rfl rfl (by decide +kernel) (Nat.le_of_ble_eq_true rfl) ?_
  intro p e s m ar below meth c ls A Q hx hb hr hml hown hts hlocks hK hE hA hQ hl hw
  have hl : lv_has ls 2 [(0, .int (nI r)), (1, .int (nI k))] := hl
  have hw : zHw x A s.heap (w) s.heap [] := hw
  refine lv_bipush (v := 7) hx hb dX6_roadOf_0 (by decide) ?_
  refine lv_iconst (v := 2) hx hb dX6_roadOf_2 (by decide) ?_
  refine lv_iload_n hx hb dX6_roadOf_3 rfl (lv_at hl 0 rfl) ?_
  refine lv_imul hx hb dX6_roadOf_4 ?_
  refine lv_iadd hx hb dX6_roadOf_5 ?_
  refine lv_iload_n hx hb dX6_roadOf_6 rfl (lv_at hl 1 rfl) ?_
  refine lv_iadd hx hb dX6_roadOf_7 ?_
  exact zFG.iret hx hb hr hlocks hQ hw rfl dX6_roadOf_8 ⟨zsi (zroad r k), rfl⟩

set_option maxHeartbeats 4000000 in
set_option maxRecDepth 100000 in
theorem c_X6_heldTo (x : zX) (w : va_W) (v b : Int32) : zFF x mX6_heldTo 0 [.int v, .int b] (w) (some (.int (zHt v b))) (w) := by
  refine zFG.start RX6 cX6_heldTo 2 (some .int) rfl rfl (by decide +kernel) (Nat.le_of_ble_eq_true rfl) ?_
  intro p e s m ar below meth c ls A Q hx hb hr hml hown hts hlocks hK hE hA hQ hl hw
  have hl : lv_has ls 2 [(0, .int v), (1, .int b)] := hl
  have hw : zHw x A s.heap (w) s.heap [] := hw
  refine lv_iload_n hx hb dX6_heldTo_0 rfl (lv_at hl 0 rfl) ?_
  refine lv_iload_n hx hb dX6_heldTo_1 rfl (lv_at hl 1 rfl) ?_
  refine lv_icmp_le (tgt := 9) hx hb dX6_heldTo_2 (by decide) (fun c2 => ?_) (fun c2 => ?_)
  · refine lv_iload_n hx hb dX6_heldTo_9 rfl (lv_at hl 0 rfl) ?_
    exact zFG.iret hx hb hr hlocks hQ hw rfl dX6_heldTo_10 ⟨zsi (by unfold zHt; first | rw [if_pos (Int32.not_le.mp c2)] | rw [if_neg (Int32.not_lt.mpr c2)]), rfl⟩
  · refine lv_iload_n hx hb dX6_heldTo_5 rfl (lv_at hl 1 rfl) ?_
    refine lv_goto (tgt := 10) hx hb dX6_heldTo_6 (by decide) ?_
    exact zFG.iret hx hb hr hlocks hQ hw rfl dX6_heldTo_10 ⟨zsi (by unfold zHt; first | rw [if_pos (Int32.not_le.mp c2)] | rw [if_neg (Int32.not_lt.mpr c2)]), rfl⟩

set_option maxHeartbeats 4000000 in
set_option maxRecDepth 100000 in
theorem c_X6_ones (x : zX) (w : va_W) (b : Nat) (hb8 : b < 256) : zFF x mX6_ones 0 [.int (nI b)] (w) (some (.int (nI (zpc b)))) (w) := by
  refine zFG.start RX6 cX6_ones 3 (some .int) rfl rfl (by decide +kernel) (Nat.le_of_ble_eq_true rfl) ?_
  intro p e s m ar below meth c ls A Q hx hb hr hml hown hts hlocks hK hE hA hQ hl hw
  have hl : lv_has ls 3 [(0, .int (nI b))] := hl
  have hw : zHw x A s.heap (w) s.heap [] := hw
  refine lv_iconst (v := 0) hx hb dX6_ones_0 (by decide) ?_
  refine lv_istore_n (lv' := [(1, .int 0), (0, .int (nI b))]) hx hb dX6_ones_1 rfl hl (by decide) rfl (fun ls hl => ?_)
  refine lv_iload_n hx hb dX6_ones_2 rfl (lv_at hl 1 rfl) ?_
  refine lv_istore_n (lv' := [(2, .int (nI b)), (1, .int 0), (0, .int (nI b))]) hx hb dX6_ones_3 rfl hl (by decide) rfl (fun ls hl => ?_)
  have loop4 : ∀ (dd : Nat) (d : Nat) (j : Nat), d < dd → (hd : d < 256) → (he : j + zpc d = zpc b) → ∀ (H : Heap) (locs : List Loc) (ls : Array Slot), zHw x A s.heap (w) H locs → lv_has ls 3 [(1, .int (nI j)), (2, .int (nI d))] → W p x.1 e (zRM 0) s m ar below meth c H locs 0 0 Q (F0 m 4 ls []) := by
    intro dd
    induction dd with
    | zero => intro d j hm; exact absurd hm (Nat.not_lt_zero _)
    | succ dd ih4 =>
      intro d j hm hd he H locs ls hw hl
      refine lv_iload_n hx hb dX6_ones_4 rfl (lv_at hl 1 rfl) ?_
      refine lv_if_eq (tgt := 20) hx hb dX6_ones_5 (by decide) (fun c5 => ?_) (fun c5 => ?_)
      · refine lv_iload_n hx hb dX6_ones_20 rfl (lv_at hl 0 rfl) ?_
        exact zFG.iret hx hb hr hlocks hQ hw rfl dX6_ones_21 ⟨zsi (by have e : d = 0 := (nI_eq (a := d) (b := 0) (by omega) (by omega)).mp c5; subst e; rw [← he]; rfl), rfl⟩
      · have hd0 : 0 < d := Nat.pos_of_ne_zero (fun e => c5 (by rw [e]; rfl))
        obtain ⟨hz1, hz2, hz3⟩ := zlow_ok d hd hd0
        refine lv_iinc (v := nI (j + 1)) (lv' := [(1, .int (nI (j + 1))), (2, .int (nI d))]) hx hb dX6_ones_8 hl (k := 0) rfl (nI_1 j) (by decide) rfl (fun ls hl => ?_)
        refine lv_iload_n hx hb dX6_ones_11 rfl (lv_at hl 1 rfl) ?_
        refine lv_iload_n hx hb dX6_ones_12 rfl (lv_at hl 1 rfl) ?_
        refine lv_iconst (v := 1) hx hb dX6_ones_13 (by decide) ?_
        refine lv_isub hx hb dX6_ones_14 ?_
        refine lv_iand hx hb dX6_ones_15 ?_
        refine lv_istore_n (lv' := [(2, .int ((nI d) &&& ((nI d) - 1))), (1, .int (nI (j + 1)))]) hx hb dX6_ones_16 rfl hl (by decide) rfl (fun ls hl => ?_)
        have hl : lv_has ls 3 [(2, .int (nI (zlow d))), (1, .int (nI (j + 1)))] := by
          rw [show nI (zlow d) = (nI d) &&& ((nI d) - 1) from hz1.symm]; exact hl
        refine lv_goto (tgt := 4) hx hb dX6_ones_17 (by decide) ?_
        exact ih4 (zlow d) (j + 1) (by omega) (by omega) (by omega) _ _ _ hw (lv_sub hl [1, 0] rfl)
  exact loop4 (_ + 1) b 0 (Nat.lt_succ_self _) hb8 (Nat.zero_add _) _ _ _ hw (lv_sub hl [1, 0] rfl)

set_option maxHeartbeats 4000000 in
set_option maxRecDepth 100000 in
theorem c_X6_isHole (x : zX) (a : Nat → Nat) (q : Nat → Int32) (g : zT) (nu : Nat → Nat → Int64) (S : zT) (v : Int32) (hI : zInv S) : zFF x mX6_isHole 1 [.ref (a 0), .int v] (zMW x a q g nu (zflat S)) (some (.int (zb (0 ≤ v ∧ v < S 0 0)))) (zMW x a q g nu (zflat S)) := by
  obtain ⟨n, hn, h0⟩ := hI.holes
  refine zFG.start RX6 cX6_isHole 2 (some .boolean) rfl rfl (by decide +kernel) (Nat.le_of_ble_eq_true rfl) ?_
  intro p e s m ar below meth c ls A Q hx hb hr hml hown hts hlocks hK hE hA hQ hl hw
  have hl : lv_has ls 2 [(0, .ref (a 0)), (1, .int v)] := hl
  have hw : zHw x A s.heap (zMW x a q g nu (zflat S)) s.heap [] := hw
  refine lv_iload_n hx hb dX6_isHole_0 rfl (lv_at hl 1 rfl) ?_
  refine lv_i2l hx hb dX6_isHole_1 rfl ?_
  refine lv_lconst (v := 0) hx hb dX6_isHole_2 (by decide) ?_
  refine lv_aload_n hx hb dX6_isHole_3 rfl (lv_at hl 0 rfl) ?_
  refine gfX6_7 hx hb hown hts hK hw 0 rfl rfl dX6_isHole_4 ?_
  refine lv_iconst (v := 0) hx hb dX6_isHole_7 (by decide) ?_
  refine zial2 (v := S 0 0) hx hb hK hw 1 0 0 rfl rfl rfl (by decide) (by decide) dX6_isHole_8 rfl ?_
  refine lv_iconst (v := 1) hx hb dX6_isHole_9 (by decide) ?_
  refine lv_isub hx hb dX6_isHole_10 ?_
  refine lv_i2l hx hb dX6_isHole_11 rfl ?_
  refine zcSwi (r := zb ((0 : Int64) ≤ v.toInt64 ∧ v.toInt64 ≤ ((S 0 0) - 1).toInt64)) hx hb hml hown hts hl.1 hK hE hA lkX6_48 (c_X6_in x (zMW x a q g nu (zflat S)) v.toInt64 0 (((S 0 0) - 1).toInt64)) ⟨Nat.le_of_ble_eq_true rfl, Nat.le_of_ble_eq_true rfl⟩ ⟨Nat.zero_le _, Nat.zero_le _⟩ hw rfl rfl (Nat.le_of_ble_eq_true rfl) dX6_isHole_12 (fun H locs hw => ?_)
  have hw : zHw x A s.heap (zMW x a q g nu (zflat S)) H locs := hw
  exact zFG.zret hx hb hr hlocks hQ hw rfl dX6_isHole_15 (zb2i_nar _) ⟨zsi (zb_iff (zlast n hn h0 v)), rfl⟩

set_option maxHeartbeats 4000000 in
set_option maxRecDepth 100000 in
theorem c_X6_its (x : zX) (a : Nat → Nat) (q : Nat → Int32) (g : zT) (nu : Nat → Nat → Int64) (S : zT) (h w : Nat) (hh : h < 8) (hw6 : w < 6) : zFF x mX6_its 1 [.ref (a 0), .int (nI h), .int (nI w)] (zMW x a q g nu (zflat S)) (some (.int (S (3 + w) h))) (zMW x a q g nu (zflat S)) := by
  refine zFG.start RX6 cX6_its 3 (some .int) rfl rfl (by decide +kernel) (Nat.le_of_ble_eq_true rfl) ?_
  intro p e s m ar below meth c ls A Q hx hb hr hml hown hts hlocks hK hE hA hQ hl hw
  have hl : lv_has ls 3 [(0, .ref (a 0)), (1, .int (nI h)), (2, .int (nI w))] := hl
  have hw : zHw x A s.heap (zMW x a q g nu (zflat S)) s.heap [] := hw
  refine lv_aload_n hx hb dX6_its_0 rfl (lv_at hl 0 rfl) ?_
  refine gfX6_7 hx hb hown hts hK hw 0 rfl rfl dX6_its_1 ?_
  refine lv_iload_n hx hb dX6_its_4 rfl (lv_at hl 1 rfl) ?_
  refine lv_iload_n hx hb dX6_its_5 rfl (lv_at hl 2 rfl) ?_
  refine zcSwi (r := nI (19 + 6 * h + w)) hx hb hml hown hts hl.1 hK hE hA lkX6_52 (c_X6_spotOf x (zMW x a q g nu (zflat S)) h w) ⟨Nat.le_of_ble_eq_true rfl, Nat.le_of_ble_eq_true rfl⟩ ⟨Nat.zero_le _, Nat.zero_le _⟩ hw rfl rfl (Nat.le_of_ble_eq_true rfl) dX6_its_6 (fun H locs hw => ?_)
  have hw : zHw x A s.heap (zMW x a q g nu (zflat S)) H locs := hw
  refine zial2 (v := S (3 + w) h) hx hb hK hw 1 0 (19 + 6 * h + w) rfl rfl rfl (by omega) (by decide) dX6_its_9 (zflat_it S (by omega)) ?_
  exact zFG.iret hx hb hr hlocks hQ hw rfl dX6_its_10 ⟨rfl, rfl⟩

set_option maxHeartbeats 4000000 in
set_option maxRecDepth 100000 in
theorem c_X6_finds (x : zX) (a : Nat → Nat) (q : Nat → Int32) (g : zT) (nu : Nat → Nat → Int64) (f : Nat → Int32) (v : Int32) (j : Nat) (hj : j < 7) (hv : -1000000001 - v = nI j) : zFF x mX6_finds 0 [.ref (a 0), .int v] (zMW x a q g nu f) (some (.int v)) (zMW x a q (zU g 5 j (g 5 j + 1)) nu f) := by
  refine zFG.start RX6 cX6_finds 2 (some .int) rfl rfl (by decide +kernel) (Nat.le_of_ble_eq_true rfl) ?_
  intro p e s m ar below meth c ls A Q hx hb hr hml hown hts hlocks hK hE hA hQ hl hw
  have hl : lv_has ls 2 [(0, .ref (a 0)), (1, .int v)] := hl
  have hw : zHw x A s.heap (zMW x a q g nu f) s.heap [] := hw
  refine lv_aload_n hx hb dX6_finds_0 rfl (lv_at hl 0 rfl) ?_
  refine gfX6_22 hx hb hown hts hK hw 0 rfl rfl dX6_finds_1 ?_
  refine lv_ldc (v := (-1000000001)) hx hb hown (hts _ ckX6_45) dX6_finds_4 ?_
  refine lv_iload_n hx hb dX6_finds_6 rfl (lv_at hl 1 rfl) ?_
  refine lv_isub hx hb dX6_finds_7 ?_
  refine lv_dup2_11 hx hb dX6_finds_8 rfl rfl ?_
  refine zial hx hb hK hw 5 0 j rfl rfl hv hj (by decide) dX6_finds_9 ?_
  refine lv_iconst (v := 1) hx hb dX6_finds_10 (by decide) ?_
  refine lv_iadd hx hb dX6_finds_11 ?_
  refine zias hx hb hK hw 5 0 j rfl rfl hv hj (by decide) dX6_finds_12 (fun H locs hw => ?_)
  have hw : zHw x A s.heap (zMW x a q (zU g 5 j (((g 5) j) + 1)) nu f) H locs := hw
  refine lv_iload_n hx hb dX6_finds_13 rfl (lv_at hl 1 rfl) ?_
  exact zFG.iret hx hb hr hlocks hQ hw rfl dX6_finds_14 ⟨rfl, rfl⟩

set_option maxHeartbeats 4000000 in
set_option maxRecDepth 100000 in
theorem c_X6_saves (x : zX) (a : Nat → Nat) (q : Nat → Int32) (g : zT) (nu : Nat → Nat → Int64) (f : Nat → Int32) : zFF x mX6_saves 0 [.ref (a 0)] (zMW x a q g nu f) none (zMW x a q (zV g 3 f) nu f) := by
  refine zFG.start RX6 cX6_saves 2 none rfl rfl (by decide +kernel) (Nat.le_of_ble_eq_true rfl) ?_
  intro p e s m ar below meth c ls A Q hx hb hr hml hown hts hlocks hK hE hA hQ hl hw
  have hl : lv_has ls 2 [(0, .ref (a 0))] := hl
  have hw : zHw x A s.heap (zMW x a q g nu f) s.heap [] := hw
  refine lv_iconst (v := 0) hx hb dX6_saves_0 (by decide) ?_
  refine lv_istore_n (lv' := [(1, .int 0), (0, .ref (a 0))]) hx hb dX6_saves_1 rfl hl (by decide) rfl (fun ls hl => ?_)
  have loop2 : ∀ (dd : Nat) (k : Nat), 67 - k < dd → (hk : k ≤ 67) → ∀ (H : Heap) (locs : List Loc) (ls : Array Slot), zHw x A s.heap (zMW x a q (zV g 3 (zfill f (g 3) k)) nu f) H locs → lv_has ls 2 [(0, .ref (a 0)), (1, .int (nI k))] → W p x.1 e (zRM 0) s m ar below meth c H locs 0 0 Q (F0 m 2 ls []) := by
    intro dd
    induction dd with
    | zero => intro k hm; exact absurd hm (Nat.not_lt_zero _)
    | succ dd ih2 =>
      intro k hm hk H locs ls hw hl
      refine lv_iload_n hx hb dX6_saves_2 rfl (lv_at hl 1 rfl) ?_
      refine lv_bipush (v := 67) hx hb dX6_saves_3 (by decide) ?_
      refine lv_icmp_ge (tgt := 26) hx hb dX6_saves_5 (by decide) (fun c5 => ?_) (fun c5 => ?_)
      · have hke : k = 67 := zke (v := 67) rfl (by omega) hk c5
        subst hke
        have hw := hw.cong 3 f rfl (fun j hj => if_pos hj)
        have hw : zHw x A s.heap (zMW x a q (zV g 3 f) nu f) H locs := hw
        exact zFG.vret hx hb hr hlocks hQ hw rfl dX6_saves_26 ⟨rfl, rfl⟩
      · have hkn : k < 67 := zkn (v := 67) rfl (by omega) hk c5
        refine lv_aload_n hx hb dX6_saves_8 rfl (lv_at hl 0 rfl) ?_
        refine gfX6_16 hx hb hown hts hK hw 0 rfl rfl dX6_saves_9 ?_
        refine lv_iload_n hx hb dX6_saves_12 rfl (lv_at hl 1 rfl) ?_
        refine lv_aload_n hx hb dX6_saves_13 rfl (lv_at hl 0 rfl) ?_
        refine gfX6_7 hx hb hown hts hK hw 0 rfl rfl dX6_saves_14 ?_
        refine lv_iload_n hx hb dX6_saves_17 rfl (lv_at hl 1 rfl) ?_
        refine zial hx hb hK hw 1 0 k rfl rfl rfl (by omega) (by decide) dX6_saves_18 ?_
        refine zias hx hb hK hw 3 0 k rfl rfl rfl (by omega) (by decide) dX6_saves_19 (fun H locs hw => ?_)
        have hw : zHw x A s.heap (zMW x a q (zU (zV g 3 (zfill f (g 3) k)) 3 k (f k)) nu f) H locs := hw
        have hw : zHw x A s.heap (zMW x a q (zV g 3 (zfill f (g 3) (k + 1))) nu f) H locs := by
          rw [show zV g 3 (zfill f (g 3) (k + 1)) = zU (zV g 3 (zfill f (g 3) k)) 3 k (f k) from (by rw [zV_U, zfill_s])]; exact hw
        refine lv_iinc (v := nI (k + 1)) (lv' := [(1, .int (nI (k + 1))), (0, .ref (a 0))]) hx hb dX6_saves_20 hl (k := 1) rfl (nI_1 k) (by decide) rfl (fun ls hl => ?_)
        refine lv_goto (tgt := 2) hx hb dX6_saves_23 (by decide) ?_
        exact ih2 (k + 1) (by omega) (by omega) _ _ _ hw (lv_sub hl [1, 0] rfl)
  exact loop2 (_ + 1) 0 (Nat.lt_succ_self _) (Nat.zero_le _) _ _ _ (hw.re (by rw [zfill_0, zV_self])) (lv_sub hl [1, 0] rfl)

set_option maxHeartbeats 4000000 in
set_option maxRecDepth 100000 in
theorem c_X6_putsBack (x : zX) (a : Nat → Nat) (q : Nat → Int32) (g : zT) (nu : Nat → Nat → Int64) (f : Nat → Int32) : zFF x mX6_putsBack 0 [.ref (a 0)] (zMW x a q g nu f) none (zMW x a q g nu (g 3)) := by
  refine zFG.start RX6 cX6_putsBack 2 none rfl rfl (by decide +kernel) (Nat.le_of_ble_eq_true rfl) ?_
  intro p e s m ar below meth c ls A Q hx hb hr hml hown hts hlocks hK hE hA hQ hl hw
  have hl : lv_has ls 2 [(0, .ref (a 0))] := hl
  have hw : zHw x A s.heap (zMW x a q g nu f) s.heap [] := hw
  refine lv_iconst (v := 0) hx hb dX6_putsBack_0 (by decide) ?_
  refine lv_istore_n (lv' := [(1, .int 0), (0, .ref (a 0))]) hx hb dX6_putsBack_1 rfl hl (by decide) rfl (fun ls hl => ?_)
  have loop2 : ∀ (dd : Nat) (k : Nat), 67 - k < dd → (hk : k ≤ 67) → ∀ (H : Heap) (locs : List Loc) (ls : Array Slot), zHw x A s.heap (zMW x a q g nu (zfill (g 3) f k)) H locs → lv_has ls 2 [(0, .ref (a 0)), (1, .int (nI k))] → W p x.1 e (zRM 0) s m ar below meth c H locs 0 0 Q (F0 m 2 ls []) := by
    intro dd
    induction dd with
    | zero => intro k hm; exact absurd hm (Nat.not_lt_zero _)
    | succ dd ih2 =>
      intro k hm hk H locs ls hw hl
      refine lv_iload_n hx hb dX6_putsBack_2 rfl (lv_at hl 1 rfl) ?_
      refine lv_bipush (v := 67) hx hb dX6_putsBack_3 (by decide) ?_
      refine lv_icmp_ge (tgt := 26) hx hb dX6_putsBack_5 (by decide) (fun c5 => ?_) (fun c5 => ?_)
      · have hke : k = 67 := zke (v := 67) rfl (by omega) hk c5
        subst hke
        have hw := hw.cong 1 (g 3) rfl (fun j hj => if_pos hj)
        have hw : zHw x A s.heap (zMW x a q g nu (g 3)) H locs := hw
        exact zFG.vret hx hb hr hlocks hQ hw rfl dX6_putsBack_26 ⟨rfl, rfl⟩
      · have hkn : k < 67 := zkn (v := 67) rfl (by omega) hk c5
        refine lv_aload_n hx hb dX6_putsBack_8 rfl (lv_at hl 0 rfl) ?_
        refine gfX6_7 hx hb hown hts hK hw 0 rfl rfl dX6_putsBack_9 ?_
        refine lv_iload_n hx hb dX6_putsBack_12 rfl (lv_at hl 1 rfl) ?_
        refine lv_aload_n hx hb dX6_putsBack_13 rfl (lv_at hl 0 rfl) ?_
        refine gfX6_16 hx hb hown hts hK hw 0 rfl rfl dX6_putsBack_14 ?_
        refine lv_iload_n hx hb dX6_putsBack_17 rfl (lv_at hl 1 rfl) ?_
        refine zial hx hb hK hw 3 0 k rfl rfl rfl (by omega) (by decide) dX6_putsBack_18 ?_
        refine zias hx hb hK hw 1 0 k rfl rfl rfl (by omega) (by decide) dX6_putsBack_19 (fun H locs hw => ?_)
        have hw : zHw x A s.heap (zMW x a q g nu (upd (zfill (g 3) f k) k ((g 3) k))) H locs := hw
        have hw : zHw x A s.heap (zMW x a q g nu (zfill (g 3) f (k + 1))) H locs := by
          rw [show zfill (g 3) f (k + 1) = upd (zfill (g 3) f k) k (g 3 k) from (zfill_s _ _ k).symm]; exact hw
        refine lv_iinc (v := nI (k + 1)) (lv' := [(1, .int (nI (k + 1))), (0, .ref (a 0))]) hx hb dX6_putsBack_20 hl (k := 1) rfl (nI_1 k) (by decide) rfl (fun ls hl => ?_)
        refine lv_goto (tgt := 2) hx hb dX6_putsBack_23 (by decide) ?_
        exact ih2 (k + 1) (by omega) (by omega) _ _ _ hw (lv_sub hl [1, 0] rfl)
  exact loop2 (_ + 1) 0 (Nat.lt_succ_self _) (Nat.zero_le _) _ _ _ (hw.re (by rw [zfill_0])) (lv_sub hl [1, 0] rfl)

set_option maxHeartbeats 4000000 in
set_option maxRecDepth 100000 in
theorem c_X6_laysAside (x : zX) (a : Nat → Nat) (q : Nat → Int32) (g : zT) (nu : Nat → Nat → Int64) (f : Nat → Int32) : zFF x mX6_laysAside 0 [.ref (a 0)] (zMW x a q g nu f) none (zMW x a q (zV g 4 f) nu f) := by
  refine zFG.start RX6 cX6_laysAside 2 none rfl rfl (by decide +kernel) (Nat.le_of_ble_eq_true rfl) ?_
  intro p e s m ar below meth c ls A Q hx hb hr hml hown hts hlocks hK hE hA hQ hl hw
  have hl : lv_has ls 2 [(0, .ref (a 0))] := hl
  have hw : zHw x A s.heap (zMW x a q g nu f) s.heap [] := hw
  refine lv_iconst (v := 0) hx hb dX6_laysAside_0 (by decide) ?_
  refine lv_istore_n (lv' := [(1, .int 0), (0, .ref (a 0))]) hx hb dX6_laysAside_1 rfl hl (by decide) rfl (fun ls hl => ?_)
  have loop2 : ∀ (dd : Nat) (k : Nat), 67 - k < dd → (hk : k ≤ 67) → ∀ (H : Heap) (locs : List Loc) (ls : Array Slot), zHw x A s.heap (zMW x a q (zV g 4 (zfill f (g 4) k)) nu f) H locs → lv_has ls 2 [(0, .ref (a 0)), (1, .int (nI k))] → W p x.1 e (zRM 0) s m ar below meth c H locs 0 0 Q (F0 m 2 ls []) := by
    intro dd
    induction dd with
    | zero => intro k hm; exact absurd hm (Nat.not_lt_zero _)
    | succ dd ih2 =>
      intro k hm hk H locs ls hw hl
      refine lv_iload_n hx hb dX6_laysAside_2 rfl (lv_at hl 1 rfl) ?_
      refine lv_bipush (v := 67) hx hb dX6_laysAside_3 (by decide) ?_
      refine lv_icmp_ge (tgt := 26) hx hb dX6_laysAside_5 (by decide) (fun c5 => ?_) (fun c5 => ?_)
      · have hke : k = 67 := zke (v := 67) rfl (by omega) hk c5
        subst hke
        have hw := hw.cong 4 f rfl (fun j hj => if_pos hj)
        have hw : zHw x A s.heap (zMW x a q (zV g 4 f) nu f) H locs := hw
        exact zFG.vret hx hb hr hlocks hQ hw rfl dX6_laysAside_26 ⟨rfl, rfl⟩
      · have hkn : k < 67 := zkn (v := 67) rfl (by omega) hk c5
        refine lv_aload_n hx hb dX6_laysAside_8 rfl (lv_at hl 0 rfl) ?_
        refine gfX6_19 hx hb hown hts hK hw 0 rfl rfl dX6_laysAside_9 ?_
        refine lv_iload_n hx hb dX6_laysAside_12 rfl (lv_at hl 1 rfl) ?_
        refine lv_aload_n hx hb dX6_laysAside_13 rfl (lv_at hl 0 rfl) ?_
        refine gfX6_7 hx hb hown hts hK hw 0 rfl rfl dX6_laysAside_14 ?_
        refine lv_iload_n hx hb dX6_laysAside_17 rfl (lv_at hl 1 rfl) ?_
        refine zial hx hb hK hw 1 0 k rfl rfl rfl (by omega) (by decide) dX6_laysAside_18 ?_
        refine zias hx hb hK hw 4 0 k rfl rfl rfl (by omega) (by decide) dX6_laysAside_19 (fun H locs hw => ?_)
        have hw : zHw x A s.heap (zMW x a q (zU (zV g 4 (zfill f (g 4) k)) 4 k (f k)) nu f) H locs := hw
        have hw : zHw x A s.heap (zMW x a q (zV g 4 (zfill f (g 4) (k + 1))) nu f) H locs := by
          rw [show zV g 4 (zfill f (g 4) (k + 1)) = zU (zV g 4 (zfill f (g 4) k)) 4 k (f k) from (by rw [zV_U, zfill_s])]; exact hw
        refine lv_iinc (v := nI (k + 1)) (lv' := [(1, .int (nI (k + 1))), (0, .ref (a 0))]) hx hb dX6_laysAside_20 hl (k := 1) rfl (nI_1 k) (by decide) rfl (fun ls hl => ?_)
        refine lv_goto (tgt := 2) hx hb dX6_laysAside_23 (by decide) ?_
        exact ih2 (k + 1) (by omega) (by omega) _ _ _ hw (lv_sub hl [1, 0] rfl)
  exact loop2 (_ + 1) 0 (Nat.lt_succ_self _) (Nat.zero_le _) _ _ _ (hw.re (by rw [zfill_0, zV_self])) (lv_sub hl [1, 0] rfl)

set_option maxHeartbeats 4000000 in
set_option maxRecDepth 100000 in
theorem c_X6_takesBack (x : zX) (a : Nat → Nat) (q : Nat → Int32) (g : zT) (nu : Nat → Nat → Int64) (f : Nat → Int32) (v : Int32) : zFF x mX6_takesBack 0 [.ref (a 0), .int v] (zMW x a q g nu f) (some (.int v)) (zMW x a q g nu (g 4)) := by
  refine zFG.start RX6 cX6_takesBack 3 (some .int) rfl rfl (by decide +kernel) (Nat.le_of_ble_eq_true rfl) ?_
  intro p e s m ar below meth c ls A Q hx hb hr hml hown hts hlocks hK hE hA hQ hl hw
  have hl : lv_has ls 3 [(0, .ref (a 0)), (1, .int v)] := hl
  have hw : zHw x A s.heap (zMW x a q g nu f) s.heap [] := hw
  refine lv_iconst (v := 0) hx hb dX6_takesBack_0 (by decide) ?_
  refine lv_istore_n (lv' := [(2, .int 0), (0, .ref (a 0)), (1, .int v)]) hx hb dX6_takesBack_1 rfl hl (by decide) rfl (fun ls hl => ?_)
  have loop2 : ∀ (dd : Nat) (k : Nat), 67 - k < dd → (hk : k ≤ 67) → ∀ (H : Heap) (locs : List Loc) (ls : Array Slot), zHw x A s.heap (zMW x a q g nu (zfill (g 4) f k)) H locs → lv_has ls 3 [(0, .ref (a 0)), (1, .int v), (2, .int (nI k))] → W p x.1 e (zRM 0) s m ar below meth c H locs 0 0 Q (F0 m 2 ls []) := by
    intro dd
    induction dd with
    | zero => intro k hm; exact absurd hm (Nat.not_lt_zero _)
    | succ dd ih2 =>
      intro k hm hk H locs ls hw hl
      refine lv_iload_n hx hb dX6_takesBack_2 rfl (lv_at hl 2 rfl) ?_
      refine lv_bipush (v := 67) hx hb dX6_takesBack_3 (by decide) ?_
      refine lv_icmp_ge (tgt := 26) hx hb dX6_takesBack_5 (by decide) (fun c5 => ?_) (fun c5 => ?_)
      · have hke : k = 67 := zke (v := 67) rfl (by omega) hk c5
        subst hke
        have hw := hw.cong 1 (g 4) rfl (fun j hj => if_pos hj)
        have hw : zHw x A s.heap (zMW x a q g nu (g 4)) H locs := hw
        refine lv_iload_n hx hb dX6_takesBack_26 rfl (lv_at hl 1 rfl) ?_
        exact zFG.iret hx hb hr hlocks hQ hw rfl dX6_takesBack_27 ⟨rfl, rfl⟩
      · have hkn : k < 67 := zkn (v := 67) rfl (by omega) hk c5
        refine lv_aload_n hx hb dX6_takesBack_8 rfl (lv_at hl 0 rfl) ?_
        refine gfX6_7 hx hb hown hts hK hw 0 rfl rfl dX6_takesBack_9 ?_
        refine lv_iload_n hx hb dX6_takesBack_12 rfl (lv_at hl 2 rfl) ?_
        refine lv_aload_n hx hb dX6_takesBack_13 rfl (lv_at hl 0 rfl) ?_
        refine gfX6_19 hx hb hown hts hK hw 0 rfl rfl dX6_takesBack_14 ?_
        refine lv_iload_n hx hb dX6_takesBack_17 rfl (lv_at hl 2 rfl) ?_
        refine zial hx hb hK hw 4 0 k rfl rfl rfl (by omega) (by decide) dX6_takesBack_18 ?_
        refine zias hx hb hK hw 1 0 k rfl rfl rfl (by omega) (by decide) dX6_takesBack_19 (fun H locs hw => ?_)
        have hw : zHw x A s.heap (zMW x a q g nu (upd (zfill (g 4) f k) k ((g 4) k))) H locs := hw
        have hw : zHw x A s.heap (zMW x a q g nu (zfill (g 4) f (k + 1))) H locs := by
          rw [show zfill (g 4) f (k + 1) = upd (zfill (g 4) f k) k (g 4 k) from (zfill_s _ _ k).symm]; exact hw
        refine lv_iinc (v := nI (k + 1)) (lv' := [(2, .int (nI (k + 1))), (0, .ref (a 0)), (1, .int v)]) hx hb dX6_takesBack_20 hl (k := 2) rfl (nI_1 k) (by decide) rfl (fun ls hl => ?_)
        refine lv_goto (tgt := 2) hx hb dX6_takesBack_23 (by decide) ?_
        exact ih2 (k + 1) (by omega) (by omega) _ _ _ hw (lv_sub hl [1, 2, 0] rfl)
  exact loop2 (_ + 1) 0 (Nat.lt_succ_self _) (Nat.zero_le _) _ _ _ (hw.re (by rw [zfill_0])) (lv_sub hl [1, 2, 0] rfl)

set_option maxHeartbeats 4000000 in
set_option maxRecDepth 100000 in
theorem c_X6_becomes (x : zX) (a : Nat → Nat) (q : Nat → Int32) (g : zT) (nu : Nat → Nat → Int64) (f : Nat → Int32) (j : Nat) (v : Int32) (hj : j < 67) : zFF x mX6_becomes 0 [.ref (a 0), .int (nI j), .int v] (zMW x a q g nu f) (some (.int (f j))) (zMW x a q g nu (upd f j v)) := by
  refine zFG.start RX6 cX6_becomes 4 (some .int) rfl rfl (by decide +kernel) (Nat.le_of_ble_eq_true rfl) ?_
  intro p e s m ar below meth c ls A Q hx hb hr hml hown hts hlocks hK hE hA hQ hl hw
  have hl : lv_has ls 4 [(0, .ref (a 0)), (1, .int (nI j)), (2, .int v)] := hl
  have hw : zHw x A s.heap (zMW x a q g nu f) s.heap [] := hw
  refine lv_aload_n hx hb dX6_becomes_0 rfl (lv_at hl 0 rfl) ?_
  refine gfX6_7 hx hb hown hts hK hw 0 rfl rfl dX6_becomes_1 ?_
  refine lv_iload_n hx hb dX6_becomes_4 rfl (lv_at hl 1 rfl) ?_
  refine zial hx hb hK hw 1 0 j rfl rfl rfl (by omega) (by decide) dX6_becomes_5 ?_
  refine lv_istore_n (lv' := [(3, .int (f j)), (0, .ref (a 0)), (1, .int (nI j)), (2, .int v)]) hx hb dX6_becomes_6 rfl hl (by decide) rfl (fun ls hl => ?_)
  refine lv_aload_n hx hb dX6_becomes_7 rfl (lv_at hl 1 rfl) ?_
  refine gfX6_7 hx hb hown hts hK hw 0 rfl rfl dX6_becomes_8 ?_
  refine lv_iload_n hx hb dX6_becomes_11 rfl (lv_at hl 2 rfl) ?_
  refine lv_iload_n hx hb dX6_becomes_12 rfl (lv_at hl 3 rfl) ?_
  refine zias hx hb hK hw 1 0 j rfl rfl rfl (by omega) (by decide) dX6_becomes_13 (fun H locs hw => ?_)
  have hw : zHw x A s.heap (zMW x a q g nu (upd f j v)) H locs := hw
  refine lv_iload_n hx hb dX6_becomes_14 rfl (lv_at hl 0 rfl) ?_
  exact zFG.iret hx hb hr hlocks hQ hw rfl dX6_becomes_15 ⟨rfl, rfl⟩

set_option maxHeartbeats 4000000 in
set_option maxRecDepth 100000 in
theorem c_X6_thoseAs (x : zX) (a : Nat → Nat) (q : Nat → Int32) (g : zT) (nu : Nat → Nat → Int64) (S : zT) (w : Nat) (v : Int32) (hI : zInv S) (hw6 : w < 6) : zFF x mX6_thoseAs 2 [.ref (a 0), .int (nI w), .int v] (zMW x a q g nu (zflat S)) (some (.int (zBi (fun h => decide (S (3 + w) h = v)) (zN S)))) (zMW x a q g nu (zflat S)) := by
  obtain ⟨n, hn, h0⟩ := hI.holes
  have hN : zN S = n := zN_of hn h0
  refine zFG.start RX6 cX6_thoseAs 5 (some .int) rfl rfl (by decide +kernel) (Nat.le_of_ble_eq_true rfl) ?_
  intro p e s m ar below meth c ls A Q hx hb hr hml hown hts hlocks hK hE hA hQ hl hw
  have hl : lv_has ls 5 [(0, .ref (a 0)), (1, .int (nI w)), (2, .int v)] := hl
  have hw : zHw x A s.heap (zMW x a q g nu (zflat S)) s.heap [] := hw
  refine lv_iconst (v := 0) hx hb dX6_thoseAs_0 (by decide) ?_
  refine lv_istore_n (lv' := [(3, .int 0), (0, .ref (a 0)), (1, .int (nI w)), (2, .int v)]) hx hb dX6_thoseAs_1 rfl hl (by decide) rfl (fun ls hl => ?_)
  refine lv_iconst (v := 0) hx hb dX6_thoseAs_2 (by decide) ?_
  refine lv_istore (lv' := [(4, .int 0), (3, .int 0), (0, .ref (a 0)), (1, .int (nI w)), (2, .int v)]) hx hb dX6_thoseAs_3 hl (by decide) rfl (fun ls hl => ?_)
  have loop5 : ∀ (dd : Nat) (k : Nat), n - k < dd → (hk : k ≤ n) → ∀ (H : Heap) (locs : List Loc) (ls : Array Slot), zHw x A s.heap (zMW x a q g nu (zflat S)) H locs → lv_has ls 5 [(0, .ref (a 0)), (1, .int (nI w)), (2, .int v), (3, .int (zBi (fun h => decide (S (3 + w) h = v)) k)), (4, .int (nI k))] → W p x.1 e (zRM 2) s m ar below meth c H locs 0 0 Q (F0 m 5 ls []) := by
    intro dd
    induction dd with
    | zero => intro k hm; exact absurd hm (Nat.not_lt_zero _)
    | succ dd ih5 =>
      intro k hm hk H locs ls hw hl
      refine lv_iload hx hb dX6_thoseAs_5 (lv_at hl 4 rfl) ?_
      refine lv_aload_n hx hb dX6_thoseAs_7 rfl (lv_at hl 0 rfl) ?_
      refine gfX6_7 hx hb hown hts hK hw 0 rfl rfl dX6_thoseAs_8 ?_
      refine lv_iconst (v := 0) hx hb dX6_thoseAs_11 (by decide) ?_
      refine zial2 (v := S 0 0) hx hb hK hw 1 0 0 rfl rfl rfl (by decide) (by decide) dX6_thoseAs_12 rfl ?_
      refine lv_icmp_ge (tgt := 44) hx hb dX6_thoseAs_13 (by decide) (fun c13 => ?_) (fun c13 => ?_)
      · have hke : k = n := zke h0 (by omega) hk c13
        refine lv_iload_n hx hb dX6_thoseAs_44 rfl (lv_at hl 3 rfl) ?_
        exact zFG.iret hx hb hr hlocks hQ hw rfl dX6_thoseAs_45 ⟨zsi (by rw [hN, ← hke]), rfl⟩
      · have hkn : k < n := zkn h0 (by omega) hk c13
        refine lv_iload_n hx hb dX6_thoseAs_16 rfl (lv_at hl 3 rfl) ?_
        refine lv_aload_n hx hb dX6_thoseAs_17 rfl (lv_at hl 0 rfl) ?_
        refine lv_iload hx hb dX6_thoseAs_18 (lv_at hl 4 rfl) ?_
        refine lv_iload_n hx hb dX6_thoseAs_20 rfl (lv_at hl 1 rfl) ?_
        refine zcVwi (r := S (3 + w) k) hx hb hml hown hts hl.1 hK hE hA lkX6_74 (c_X6_its x a q g nu S k w (by omega) (by omega)) ⟨Nat.le_of_ble_eq_true rfl, Nat.le_of_ble_eq_true rfl⟩ ⟨Nat.zero_le _, Nat.zero_le _⟩ hw 0 4 rfl rfl rfl rfl (Nat.le_of_ble_eq_true rfl) dX6_thoseAs_21 (fun H locs hw => ?_)
        have hw : zHw x A s.heap (zMW x a q g nu (zflat S)) H locs := hw
        refine lv_iload_n hx hb dX6_thoseAs_24 rfl (lv_at hl 2 rfl) ?_
        refine lv_icmp_ne (tgt := 35) hx hb dX6_thoseAs_25 (by decide) (fun c25 => ?_) (fun c25 => ?_)
        · refine lv_iconst (v := 0) hx hb dX6_thoseAs_35 (by decide) ?_
          refine lv_ior hx hb dX6_thoseAs_36 ?_
          refine lv_istore_n (lv' := [(3, .int ((zBi (fun h => decide (S (3 + w) h = v)) k) ||| 0)), (0, .ref (a 0)), (1, .int (nI w)), (2, .int v), (4, .int (nI k))]) hx hb dX6_thoseAs_37 rfl hl (by decide) rfl (fun ls hl => ?_)
          have hl : lv_has ls 5 [(3, .int (zBi (fun h => decide (S (3 + w) h = v)) (k + 1))), (0, .ref (a 0)), (1, .int (nI w)), (2, .int v), (4, .int (nI k))] := by
            rw [show zBi (fun h => decide (S (3 + w) h = v)) (k + 1) = (zBi (fun h => decide (S (3 + w) h = v)) k) ||| 0 from (by simp [zBi, zor0, c25])]; exact hl
          refine lv_iinc (v := nI (k + 1)) (lv' := [(4, .int (nI (k + 1))), (3, .int (zBi (fun h => decide (S (3 + w) h = v)) (k + 1))), (0, .ref (a 0)), (1, .int (nI w)), (2, .int v)]) hx hb dX6_thoseAs_38 hl (k := 4) rfl (nI_1 k) (by decide) rfl (fun ls hl => ?_)
          refine lv_goto (tgt := 5) hx hb dX6_thoseAs_41 (by decide) ?_
          exact ih5 (k + 1) (by omega) (by omega) _ _ _ hw (lv_sub hl [2, 3, 4, 1, 0] rfl)
        · refine lv_iconst (v := 1) hx hb dX6_thoseAs_28 (by decide) ?_
          refine lv_iload hx hb dX6_thoseAs_29 (lv_at hl 4 rfl) ?_
          refine lv_ishl hx hb dX6_thoseAs_31 ?_
          refine lv_goto (tgt := 36) hx hb dX6_thoseAs_32 (by decide) ?_
          refine lv_ior hx hb dX6_thoseAs_36 ?_
          refine lv_istore_n (lv' := [(3, .int ((zBi (fun h => decide (S (3 + w) h = v)) k) ||| (1 <<< ((nI k) &&& 31)))), (0, .ref (a 0)), (1, .int (nI w)), (2, .int v), (4, .int (nI k))]) hx hb dX6_thoseAs_37 rfl hl (by decide) rfl (fun ls hl => ?_)
          have hl : lv_has ls 5 [(3, .int (zBi (fun h => decide (S (3 + w) h = v)) (k + 1))), (0, .ref (a 0)), (1, .int (nI w)), (2, .int v), (4, .int (nI k))] := by
            rw [show zBi (fun h => decide (S (3 + w) h = v)) (k + 1) = (zBi (fun h => decide (S (3 + w) h = v)) k) ||| (1 <<< ((nI k) &&& 31)) from (by simp [zBi, zor0, c25])]; exact hl
          refine lv_iinc (v := nI (k + 1)) (lv' := [(4, .int (nI (k + 1))), (3, .int (zBi (fun h => decide (S (3 + w) h = v)) (k + 1))), (0, .ref (a 0)), (1, .int (nI w)), (2, .int v)]) hx hb dX6_thoseAs_38 hl (k := 4) rfl (nI_1 k) (by decide) rfl (fun ls hl => ?_)
          refine lv_goto (tgt := 5) hx hb dX6_thoseAs_41 (by decide) ?_
          exact ih5 (k + 1) (by omega) (by omega) _ _ _ hw (lv_sub hl [2, 3, 4, 1, 0] rfl)
  exact loop5 (_ + 1) 0 (Nat.lt_succ_self _) (Nat.zero_le _) _ _ _ hw (lv_sub hl [2, 3, 4, 1, 0] rfl)

set_option maxHeartbeats 4000000 in
set_option maxRecDepth 100000 in
theorem c_X6_adds (x : zX) (a : Nat → Nat) (q : Nat → Int32) (g : zT) (nu : Nat → Nat → Int64) (S : zT) (kd st : Int32) (hz0 : S 0 0 = nI (zN S)) (hz8 : zN S < 8) : zFF x mX6_adds 1 [.ref (a 0), .int kd, .int st] (zMW x a q g nu (zflat S)) (some (.int (nI (zN S)))) (zMW x a q g nu (zflat (zAd S kd st))) := by
  refine zFG.start RX6 cX6_adds 4 (some .int) rfl rfl (by decide +kernel) (Nat.le_of_ble_eq_true rfl) ?_
  intro p e s m ar below meth c ls A Q hx hb hr hml hown hts hlocks hK hE hA hQ hl hw
  have hl : lv_has ls 4 [(0, .ref (a 0)), (1, .int kd), (2, .int st)] := hl
  have hw : zHw x A s.heap (zMW x a q g nu (zflat S)) s.heap [] := hw
  refine lv_aload_n hx hb dX6_adds_0 rfl (lv_at hl 0 rfl) ?_
  refine gfX6_7 hx hb hown hts hK hw 0 rfl rfl dX6_adds_1 ?_
  refine lv_iconst (v := 0) hx hb dX6_adds_4 (by decide) ?_
  refine zial2 (v := S 0 0) hx hb hK hw 1 0 0 rfl rfl rfl (by decide) (by decide) dX6_adds_5 rfl ?_
  refine lv_istore_n (lv' := [(3, .int (S 0 0)), (0, .ref (a 0)), (1, .int kd), (2, .int st)]) hx hb dX6_adds_6 rfl hl (by decide) rfl (fun ls hl => ?_)
  have hl : lv_has ls 4 [(3, .int (nI (zN S))), (0, .ref (a 0)), (1, .int kd), (2, .int st)] := by
    rw [show nI (zN S) = S 0 0 from hz0.symm]; exact hl
  refine lv_aload_n hx hb dX6_adds_7 rfl (lv_at hl 1 rfl) ?_
  refine gfX6_7 hx hb hown hts hK hw 0 rfl rfl dX6_adds_8 ?_
  refine lv_iload_n hx hb dX6_adds_11 rfl (lv_at hl 0 rfl) ?_
  refine lv_iconst (v := 0) hx hb dX6_adds_12 (by decide) ?_
  refine zcSwi (r := nI (19 + 6 * (zN S) + 0)) hx hb hml hown hts hl.1 hK hE hA lkX6_52 (c_X6_spotOf x (zMW x a q g nu (zflat S)) (zN S) 0) ⟨Nat.le_of_ble_eq_true rfl, Nat.le_of_ble_eq_true rfl⟩ ⟨Nat.zero_le _, Nat.zero_le _⟩ hw rfl rfl (Nat.le_of_ble_eq_true rfl) dX6_adds_13 (fun H locs hw => ?_)
  have hw : zHw x A s.heap (zMW x a q g nu (zflat S)) H locs := hw
  refine lv_iload_n hx hb dX6_adds_16 rfl (lv_at hl 2 rfl) ?_
  refine zias2 (f' := zflat (zU S 3 (zN S) kd)) hx hb hK hw 1 0 (19 + 6 * (zN S) + 0) rfl rfl rfl (by omega) (by decide) dX6_adds_17 (zflat_uit S _ (by omega)) (fun H locs hw => ?_)
  have hw : zHw x A s.heap (zMW x a q g nu (zflat (zU S 3 (zN S) kd))) H locs := hw
  refine lv_aload_n hx hb dX6_adds_18 rfl (lv_at hl 1 rfl) ?_
  refine gfX6_7 hx hb hown hts hK hw 0 rfl rfl dX6_adds_19 ?_
  refine lv_iload_n hx hb dX6_adds_22 rfl (lv_at hl 0 rfl) ?_
  refine lv_iconst (v := 1) hx hb dX6_adds_23 (by decide) ?_
  refine zcSwi (r := nI (19 + 6 * (zN S) + 1)) hx hb hml hown hts hl.1 hK hE hA lkX6_52 (c_X6_spotOf x (zMW x a q g nu (zflat (zU S 3 (zN S) kd))) (zN S) 1) ⟨Nat.le_of_ble_eq_true rfl, Nat.le_of_ble_eq_true rfl⟩ ⟨Nat.zero_le _, Nat.zero_le _⟩ hw rfl rfl (Nat.le_of_ble_eq_true rfl) dX6_adds_24 (fun H locs hw => ?_)
  have hw : zHw x A s.heap (zMW x a q g nu (zflat (zU S 3 (zN S) kd))) H locs := hw
  refine lv_iload_n hx hb dX6_adds_27 rfl (lv_at hl 3 rfl) ?_
  refine zias2 (f' := zflat (zU (zU S 3 (zN S) kd) 4 (zN S) st)) hx hb hK hw 1 0 (19 + 6 * (zN S) + 1) rfl rfl rfl (by omega) (by decide) dX6_adds_28 (zflat_uit (zU S 3 (zN S) kd) _ (by omega)) (fun H locs hw => ?_)
  have hw : zHw x A s.heap (zMW x a q g nu (zflat (zU (zU S 3 (zN S) kd) 4 (zN S) st))) H locs := hw
  refine lv_aload_n hx hb dX6_adds_29 rfl (lv_at hl 1 rfl) ?_
  refine gfX6_7 hx hb hown hts hK hw 0 rfl rfl dX6_adds_30 ?_
  refine lv_iload_n hx hb dX6_adds_33 rfl (lv_at hl 0 rfl) ?_
  refine lv_iconst (v := 2) hx hb dX6_adds_34 (by decide) ?_
  refine zcSwi (r := nI (19 + 6 * (zN S) + 2)) hx hb hml hown hts hl.1 hK hE hA lkX6_52 (c_X6_spotOf x (zMW x a q g nu (zflat (zU (zU S 3 (zN S) kd) 4 (zN S) st))) (zN S) 2) ⟨Nat.le_of_ble_eq_true rfl, Nat.le_of_ble_eq_true rfl⟩ ⟨Nat.zero_le _, Nat.zero_le _⟩ hw rfl rfl (Nat.le_of_ble_eq_true rfl) dX6_adds_35 (fun H locs hw => ?_)
  have hw : zHw x A s.heap (zMW x a q g nu (zflat (zU (zU S 3 (zN S) kd) 4 (zN S) st))) H locs := hw
  refine lv_iconst (v := 5) hx hb dX6_adds_38 (by decide) ?_
  refine zias2 (f' := zflat (zU (zU (zU S 3 (zN S) kd) 4 (zN S) st) 5 (zN S) 5)) hx hb hK hw 1 0 (19 + 6 * (zN S) + 2) rfl rfl rfl (by omega) (by decide) dX6_adds_39 (zflat_uit (zU (zU S 3 (zN S) kd) 4 (zN S) st) _ (by omega)) (fun H locs hw => ?_)
  have hw : zHw x A s.heap (zMW x a q g nu (zflat (zU (zU (zU S 3 (zN S) kd) 4 (zN S) st) 5 (zN S) 5))) H locs := hw
  refine lv_aload_n hx hb dX6_adds_40 rfl (lv_at hl 1 rfl) ?_
  refine gfX6_7 hx hb hown hts hK hw 0 rfl rfl dX6_adds_41 ?_
  refine lv_iload_n hx hb dX6_adds_44 rfl (lv_at hl 0 rfl) ?_
  refine lv_iconst (v := 3) hx hb dX6_adds_45 (by decide) ?_
  refine zcSwi (r := nI (19 + 6 * (zN S) + 3)) hx hb hml hown hts hl.1 hK hE hA lkX6_52 (c_X6_spotOf x (zMW x a q g nu (zflat (zU (zU (zU S 3 (zN S) kd) 4 (zN S) st) 5 (zN S) 5))) (zN S) 3) ⟨Nat.le_of_ble_eq_true rfl, Nat.le_of_ble_eq_true rfl⟩ ⟨Nat.zero_le _, Nat.zero_le _⟩ hw rfl rfl (Nat.le_of_ble_eq_true rfl) dX6_adds_46 (fun H locs hw => ?_)
  have hw : zHw x A s.heap (zMW x a q g nu (zflat (zU (zU (zU S 3 (zN S) kd) 4 (zN S) st) 5 (zN S) 5))) H locs := hw
  refine lv_iconst (v := 0) hx hb dX6_adds_49 (by decide) ?_
  refine zias2 (f' := zflat (zU (zU (zU (zU S 3 (zN S) kd) 4 (zN S) st) 5 (zN S) 5) 6 (zN S) 0)) hx hb hK hw 1 0 (19 + 6 * (zN S) + 3) rfl rfl rfl (by omega) (by decide) dX6_adds_50 (zflat_uit (zU (zU (zU S 3 (zN S) kd) 4 (zN S) st) 5 (zN S) 5) _ (by omega)) (fun H locs hw => ?_)
  have hw : zHw x A s.heap (zMW x a q g nu (zflat (zU (zU (zU (zU S 3 (zN S) kd) 4 (zN S) st) 5 (zN S) 5) 6 (zN S) 0))) H locs := hw
  refine lv_aload_n hx hb dX6_adds_51 rfl (lv_at hl 1 rfl) ?_
  refine gfX6_7 hx hb hown hts hK hw 0 rfl rfl dX6_adds_52 ?_
  refine lv_iload_n hx hb dX6_adds_55 rfl (lv_at hl 0 rfl) ?_
  refine lv_iconst (v := 4) hx hb dX6_adds_56 (by decide) ?_
  refine zcSwi (r := nI (19 + 6 * (zN S) + 4)) hx hb hml hown hts hl.1 hK hE hA lkX6_52 (c_X6_spotOf x (zMW x a q g nu (zflat (zU (zU (zU (zU S 3 (zN S) kd) 4 (zN S) st) 5 (zN S) 5) 6 (zN S) 0))) (zN S) 4) ⟨Nat.le_of_ble_eq_true rfl, Nat.le_of_ble_eq_true rfl⟩ ⟨Nat.zero_le _, Nat.zero_le _⟩ hw rfl rfl (Nat.le_of_ble_eq_true rfl) dX6_adds_57 (fun H locs hw => ?_)
  have hw : zHw x A s.heap (zMW x a q g nu (zflat (zU (zU (zU (zU S 3 (zN S) kd) 4 (zN S) st) 5 (zN S) 5) 6 (zN S) 0))) H locs := hw
  refine lv_iconst (v := 0) hx hb dX6_adds_60 (by decide) ?_
  refine zias2 (f' := zflat (zU (zU (zU (zU (zU S 3 (zN S) kd) 4 (zN S) st) 5 (zN S) 5) 6 (zN S) 0) 7 (zN S) 0)) hx hb hK hw 1 0 (19 + 6 * (zN S) + 4) rfl rfl rfl (by omega) (by decide) dX6_adds_61 (zflat_uit (zU (zU (zU (zU S 3 (zN S) kd) 4 (zN S) st) 5 (zN S) 5) 6 (zN S) 0) _ (by omega)) (fun H locs hw => ?_)
  have hw : zHw x A s.heap (zMW x a q g nu (zflat (zU (zU (zU (zU (zU S 3 (zN S) kd) 4 (zN S) st) 5 (zN S) 5) 6 (zN S) 0) 7 (zN S) 0))) H locs := hw
  refine lv_aload_n hx hb dX6_adds_62 rfl (lv_at hl 1 rfl) ?_
  refine gfX6_7 hx hb hown hts hK hw 0 rfl rfl dX6_adds_63 ?_
  refine lv_iload_n hx hb dX6_adds_66 rfl (lv_at hl 0 rfl) ?_
  refine lv_iconst (v := 5) hx hb dX6_adds_67 (by decide) ?_
  refine zcSwi (r := nI (19 + 6 * (zN S) + 5)) hx hb hml hown hts hl.1 hK hE hA lkX6_52 (c_X6_spotOf x (zMW x a q g nu (zflat (zU (zU (zU (zU (zU S 3 (zN S) kd) 4 (zN S) st) 5 (zN S) 5) 6 (zN S) 0) 7 (zN S) 0))) (zN S) 5) ⟨Nat.le_of_ble_eq_true rfl, Nat.le_of_ble_eq_true rfl⟩ ⟨Nat.zero_le _, Nat.zero_le _⟩ hw rfl rfl (Nat.le_of_ble_eq_true rfl) dX6_adds_68 (fun H locs hw => ?_)
  have hw : zHw x A s.heap (zMW x a q g nu (zflat (zU (zU (zU (zU (zU S 3 (zN S) kd) 4 (zN S) st) 5 (zN S) 5) 6 (zN S) 0) 7 (zN S) 0))) H locs := hw
  refine lv_iconst (v := 0) hx hb dX6_adds_71 (by decide) ?_
  refine zias2 (f' := zflat (zU (zU (zU (zU (zU (zU S 3 (zN S) kd) 4 (zN S) st) 5 (zN S) 5) 6 (zN S) 0) 7 (zN S) 0) 8 (zN S) 0)) hx hb hK hw 1 0 (19 + 6 * (zN S) + 5) rfl rfl rfl (by omega) (by decide) dX6_adds_72 (zflat_uit (zU (zU (zU (zU (zU S 3 (zN S) kd) 4 (zN S) st) 5 (zN S) 5) 6 (zN S) 0) 7 (zN S) 0) _ (by omega)) (fun H locs hw => ?_)
  have hw : zHw x A s.heap (zMW x a q g nu (zflat (zU (zU (zU (zU (zU (zU S 3 (zN S) kd) 4 (zN S) st) 5 (zN S) 5) 6 (zN S) 0) 7 (zN S) 0) 8 (zN S) 0))) H locs := hw
  refine lv_aload_n hx hb dX6_adds_73 rfl (lv_at hl 1 rfl) ?_
  refine gfX6_7 hx hb hown hts hK hw 0 rfl rfl dX6_adds_74 ?_
  refine lv_iconst (v := 0) hx hb dX6_adds_77 (by decide) ?_
  refine lv_dup2_11 hx hb dX6_adds_78 rfl rfl ?_
  refine zial2 (v := (zU (zU (zU (zU (zU (zU S 3 (zN S) kd) 4 (zN S) st) 5 (zN S) 5) 6 (zN S) 0) 7 (zN S) 0) 8 (zN S) 0) 0 0) hx hb hK hw 1 0 0 rfl rfl rfl (by decide) (by decide) dX6_adds_79 rfl ?_
  refine lv_iconst (v := 1) hx hb dX6_adds_80 (by decide) ?_
  refine lv_iadd hx hb dX6_adds_81 ?_
  refine zias2 (f' := zflat (zU (zU (zU (zU (zU (zU (zU S 3 (zN S) kd) 4 (zN S) st) 5 (zN S) 5) 6 (zN S) 0) 7 (zN S) 0) 8 (zN S) 0) 0 0 (((zU (zU (zU (zU (zU (zU S 3 (zN S) kd) 4 (zN S) st) 5 (zN S) 5) 6 (zN S) 0) 7 (zN S) 0) 8 (zN S) 0) 0 0) + 1))) hx hb hK hw 1 0 0 rfl rfl rfl (by decide) (by decide) dX6_adds_82 (zflat_usc (zU (zU (zU (zU (zU (zU S 3 (zN S) kd) 4 (zN S) st) 5 (zN S) 5) 6 (zN S) 0) 7 (zN S) 0) 8 (zN S) 0) _ (by decide)) (fun H locs hw => ?_)
  have hw : zHw x A s.heap (zMW x a q g nu (zflat (zU (zU (zU (zU (zU (zU (zU S 3 (zN S) kd) 4 (zN S) st) 5 (zN S) 5) 6 (zN S) 0) 7 (zN S) 0) 8 (zN S) 0) 0 0 (((zU (zU (zU (zU (zU (zU S 3 (zN S) kd) 4 (zN S) st) 5 (zN S) 5) 6 (zN S) 0) 7 (zN S) 0) 8 (zN S) 0) 0 0) + 1)))) H locs := hw
  refine lv_iload_n hx hb dX6_adds_83 rfl (lv_at hl 0 rfl) ?_
  exact zFG.iret hx hb hr hlocks hQ hw rfl dX6_adds_84 ⟨rfl, rfl⟩

set_option maxHeartbeats 4000000 in
set_option maxRecDepth 100000 in
theorem c_X6_weekOfYear (x : zX) (a : Nat → Nat) (q : Nat → Int32) (g : zT) (nu : Nat → Nat → Int64) (S : zT) : zFF x mX6_weekOfYear 0 [.ref (a 0)] (zMW x a q g nu (zflat S)) (some (.int (zWo S))) (zMW x a q g nu (zflat S)) := by
  refine zFG.start RX6 cX6_weekOfYear 1 (some .int) rfl rfl (by decide +kernel) (Nat.le_of_ble_eq_true rfl) ?_
  intro p e s m ar below meth c ls A Q hx hb hr hml hown hts hlocks hK hE hA hQ hl hw
  have hl : lv_has ls 1 [(0, .ref (a 0))] := hl
  have hw : zHw x A s.heap (zMW x a q g nu (zflat S)) s.heap [] := hw
  refine lv_aload_n hx hb dX6_weekOfYear_0 rfl (lv_at hl 0 rfl) ?_
  refine gfX6_7 hx hb hown hts hK hw 0 rfl rfl dX6_weekOfYear_1 ?_
  refine lv_iconst (v := 1) hx hb dX6_weekOfYear_4 (by decide) ?_
  refine zial2 (v := S 0 1) hx hb hK hw 1 0 1 rfl rfl rfl (by decide) (by decide) dX6_weekOfYear_5 rfl ?_
  refine lv_bipush (v := 52) hx hb dX6_weekOfYear_6 (by decide) ?_
  refine lv_irem hx hb dX6_weekOfYear_8 (by decide) ?_
  exact zFG.iret hx hb hr hlocks hQ hw rfl dX6_weekOfYear_9 ⟨rfl, rfl⟩

set_option maxHeartbeats 4000000 in
set_option maxRecDepth 100000 in
theorem c_X6_isFrost (x : zX) (a : Nat → Nat) (q : Nat → Int32) (g : zT) (nu : Nat → Nat → Int64) (S : zT) : zFF x mX6_isFrost 1 [.ref (a 0)] (zMW x a q g nu (zflat S)) (some (.int (zb (zFr (zWo S))))) (zMW x a q g nu (zflat S)) := by
  refine zFG.start RX6 cX6_isFrost 1 (some .boolean) rfl rfl (by decide +kernel) (Nat.le_of_ble_eq_true rfl) ?_
  intro p e s m ar below meth c ls A Q hx hb hr hml hown hts hlocks hK hE hA hQ hl hw
  have hl : lv_has ls 1 [(0, .ref (a 0))] := hl
  have hw : zHw x A s.heap (zMW x a q g nu (zflat S)) s.heap [] := hw
  refine lv_aload_n hx hb dX6_isFrost_0 rfl (lv_at hl 0 rfl) ?_
  refine zcVwi (r := zWo S) hx hb hml hown hts hl.1 hK hE hA lkX6_87 (c_X6_weekOfYear x a q g nu S ) ⟨Nat.le_of_ble_eq_true rfl, Nat.le_of_ble_eq_true rfl⟩ ⟨Nat.zero_le _, Nat.zero_le _⟩ hw 0 4 rfl rfl rfl rfl (Nat.le_of_ble_eq_true rfl) dX6_isFrost_1 (fun H locs hw => ?_)
  have hw : zHw x A s.heap (zMW x a q g nu (zflat S)) H locs := hw
  refine lv_bipush (v := 10) hx hb dX6_isFrost_4 (by decide) ?_
  refine lv_icmp_lt (tgt := 18) hx hb dX6_isFrost_6 (by decide) (fun c6 => ?_) (fun c6 => ?_)
  · refine lv_iconst (v := 1) hx hb dX6_isFrost_18 (by decide) ?_
    refine lv_goto (tgt := 23) hx hb dX6_isFrost_19 (by decide) ?_
    exact zFG.zret hx hb hr hlocks hQ hw rfl dX6_isFrost_23 (by decide) ⟨zsi (by simp [zb, zFr, c6]), rfl⟩
  · refine lv_aload_n hx hb dX6_isFrost_9 rfl (lv_at hl 0 rfl) ?_
    refine zcVwi (r := zWo S) hx hb hml hown hts hl.1 hK hE hA lkX6_87 (c_X6_weekOfYear x a q g nu S ) ⟨Nat.le_of_ble_eq_true rfl, Nat.le_of_ble_eq_true rfl⟩ ⟨Nat.zero_le _, Nat.zero_le _⟩ hw 0 4 rfl rfl rfl rfl (Nat.le_of_ble_eq_true rfl) dX6_isFrost_10 (fun H locs hw => ?_)
    have hw : zHw x A s.heap (zMW x a q g nu (zflat S)) H locs := hw
    refine lv_bipush (v := 46) hx hb dX6_isFrost_13 (by decide) ?_
    refine lv_icmp_lt (tgt := 22) hx hb dX6_isFrost_15 (by decide) (fun c15 => ?_) (fun c15 => ?_)
    · refine lv_iconst (v := 0) hx hb dX6_isFrost_22 (by decide) ?_
      exact zFG.zret hx hb hr hlocks hQ hw rfl dX6_isFrost_23 (by decide) ⟨zsi (by simp [zb, zFr, c6, c15]), rfl⟩
    · refine lv_iconst (v := 1) hx hb dX6_isFrost_18 (by decide) ?_
      refine lv_goto (tgt := 23) hx hb dX6_isFrost_19 (by decide) ?_
      exact zFG.zret hx hb hr hlocks hQ hw rfl dX6_isFrost_23 (by decide) ⟨zsi (by simp [zb, zFr, c6, c15]), rfl⟩

set_option maxHeartbeats 4000000 in
set_option maxRecDepth 100000 in
theorem c_X6_growsOf (x : zX) (a : Nat → Nat) (q : Nat → Int32) (g : zT) (nu : Nat → Nat → Int64) (S : zT) (h : Nat) (hI : zInv S) (hh : h < 8) : zFF x mX6_growsOf 2 [.ref (a 0), .int (nI h)] (zMW x a q g nu (zflat S)) (some (.int (zGs S h))) (zMW x a q g nu (zflat S)) := by
  obtain ⟨hr5, hr4⟩ := zSr_of hI hh
  refine zFG.start RX6 cX6_growsOf 4 (some .int) rfl rfl (by decide +kernel) (Nat.le_of_ble_eq_true rfl) ?_
  intro p e s m ar below meth c ls A Q hx hb hr hml hown hts hlocks hK hE hA hQ hl hw
  have hl : lv_has ls 4 [(0, .ref (a 0)), (1, .int (nI h))] := hl
  have hw : zHw x A s.heap (zMW x a q g nu (zflat S)) s.heap [] := hw
  refine lv_iconst (v := 1) hx hb dX6_growsOf_0 (by decide) ?_
  refine lv_aload_n hx hb dX6_growsOf_1 rfl (lv_at hl 0 rfl) ?_
  refine gfX6_7 hx hb hown hts hK hw 0 rfl rfl dX6_growsOf_2 ?_
  refine lv_aload_n hx hb dX6_growsOf_5 rfl (lv_at hl 0 rfl) ?_
  refine lv_iload_n hx hb dX6_growsOf_6 rfl (lv_at hl 1 rfl) ?_
  refine lv_iconst (v := 1) hx hb dX6_growsOf_7 (by decide) ?_
  refine zcVwi (r := S 4 h) hx hb hml hown hts hl.1 hK hE hA lkX6_74 (c_X6_its x a q g nu S h 1 (by omega) (by omega)) ⟨Nat.le_of_ble_eq_true rfl, Nat.le_of_ble_eq_true rfl⟩ ⟨Nat.zero_le _, Nat.zero_le _⟩ hw 0 4 rfl rfl rfl rfl (Nat.le_of_ble_eq_true rfl) dX6_growsOf_8 (fun H locs hw => ?_)
  have hw : zHw x A s.heap (zMW x a q g nu (zflat S)) H locs := hw
  refine W.eq (g2 := F0 m 11 ls [.int (nI (zSr S h)), .ref (a 1), .int 1]) (by rw [hr4]) ?_
  refine lv_iconst (v := 0) hx hb dX6_growsOf_11 (by decide) ?_
  refine zcSwi (r := nI (7 + 2 * (zSr S h) + 0)) hx hb hml hown hts hl.1 hK hE hA lkX6_41 (c_X6_roadOf x (zMW x a q g nu (zflat S)) (zSr S h) 0) ⟨Nat.le_of_ble_eq_true rfl, Nat.le_of_ble_eq_true rfl⟩ ⟨Nat.zero_le _, Nat.zero_le _⟩ hw rfl rfl (Nat.le_of_ble_eq_true rfl) dX6_growsOf_12 (fun H locs hw => ?_)
  have hw : zHw x A s.heap (zMW x a q g nu (zflat S)) H locs := hw
  refine zial2 (v := S 1 (zSr S h)) hx hb hK hw 1 0 (7 + 2 * (zSr S h) + 0) rfl rfl rfl (by omega) (by decide) dX6_growsOf_15 (zflat_ro S (by omega) (by omega)) ?_
  refine lv_bipush (v := 10) hx hb dX6_growsOf_16 (by decide) ?_
  refine lv_idiv hx hb dX6_growsOf_18 (by decide) ?_
  refine lv_iadd hx hb dX6_growsOf_19 ?_
  refine lv_istore_n (lv' := [(2, .int (1 + ((S 1 (zSr S h)) / 10))), (0, .ref (a 0)), (1, .int (nI h))]) hx hb dX6_growsOf_20 rfl hl (by decide) rfl (fun ls hl => ?_)
  refine lv_aload_n hx hb dX6_growsOf_21 rfl (lv_at hl 1 rfl) ?_
  refine zcVwi (r := zb (zFr (zWo S))) hx hb hml hown hts hl.1 hK hE hA lkX6_91 (c_X6_isFrost x a q g nu S ) ⟨Nat.le_of_ble_eq_true rfl, Nat.le_of_ble_eq_true rfl⟩ ⟨Nat.zero_le _, Nat.zero_le _⟩ hw 0 4 rfl rfl rfl rfl (Nat.le_of_ble_eq_true rfl) dX6_growsOf_22 (fun H locs hw => ?_)
  have hw : zHw x A s.heap (zMW x a q g nu (zflat S)) H locs := hw
  refine lv_if_eq (tgt := 34) hx hb dX6_growsOf_25 (by decide) (fun c25 => ?_) (fun c25 => ?_)
  · have c25 := zb_0.mp c25
    refine lv_iload_n hx hb dX6_growsOf_34 rfl (lv_at hl 0 rfl) ?_
    refine lv_istore_n (lv' := [(2, .int (1 + ((S 1 (zSr S h)) / 10))), (0, .ref (a 0)), (1, .int (nI h))]) hx hb dX6_growsOf_35 rfl hl (by decide) rfl (fun ls hl => ?_)
    refine lv_iload_n hx hb dX6_growsOf_36 rfl (lv_at hl 0 rfl) ?_
    refine lv_aload_n hx hb dX6_growsOf_37 rfl (lv_at hl 1 rfl) ?_
    refine lv_iload_n hx hb dX6_growsOf_38 rfl (lv_at hl 2 rfl) ?_
    refine lv_iconst (v := 2) hx hb dX6_growsOf_39 (by decide) ?_
    refine zcVwi (r := S 5 h) hx hb hml hown hts hl.1 hK hE hA lkX6_74 (c_X6_its x a q g nu S h 2 (by omega) (by omega)) ⟨Nat.le_of_ble_eq_true rfl, Nat.le_of_ble_eq_true rfl⟩ ⟨Nat.zero_le _, Nat.zero_le _⟩ hw 0 4 rfl rfl rfl rfl (Nat.le_of_ble_eq_true rfl) dX6_growsOf_40 (fun H locs hw => ?_)
    have hw : zHw x A s.heap (zMW x a q g nu (zflat S)) H locs := hw
    refine lv_bipush (v := 20) hx hb dX6_growsOf_43 (by decide) ?_
    refine lv_idiv hx hb dX6_growsOf_45 (by decide) ?_
    refine lv_iadd hx hb dX6_growsOf_46 ?_
    refine lv_istore_n (lv' := [(3, .int ((1 + ((S 1 (zSr S h)) / 10)) + ((S 5 h) / 20))), (2, .int (1 + ((S 1 (zSr S h)) / 10))), (0, .ref (a 0)), (1, .int (nI h))]) hx hb dX6_growsOf_47 rfl hl (by decide) rfl (fun ls hl => ?_)
    refine lv_aload_n hx hb dX6_growsOf_48 rfl (lv_at hl 2 rfl) ?_
    refine lv_iload_n hx hb dX6_growsOf_49 rfl (lv_at hl 3 rfl) ?_
    refine lv_iconst (v := 0) hx hb dX6_growsOf_50 (by decide) ?_
    refine zcVwi (r := S 3 h) hx hb hml hown hts hl.1 hK hE hA lkX6_74 (c_X6_its x a q g nu S h 0 (by omega) (by omega)) ⟨Nat.le_of_ble_eq_true rfl, Nat.le_of_ble_eq_true rfl⟩ ⟨Nat.zero_le _, Nat.zero_le _⟩ hw 0 4 rfl rfl rfl rfl (Nat.le_of_ble_eq_true rfl) dX6_growsOf_51 (fun H locs hw => ?_)
    have hw : zHw x A s.heap (zMW x a q g nu (zflat S)) H locs := hw
    rcases Decidable.em (S 3 h = 1) with k1 | k1
    · refine W.eq (g2 := F0 m 54 ls (.int 1 :: [])) (by rw [k1]) ?_
      refine lv_tableIn (off := 34) (tgt := 88) hx hb dX6_growsOf_54 (by decide) (by decide) (by decide) (by decide) ?_
      refine lv_iload_n hx hb dX6_growsOf_88 rfl (lv_at hl 0 rfl) ?_
      exact zFG.iret hx hb hr hlocks hQ hw rfl dX6_growsOf_89 ⟨zsi (by simp [zGs, zGr, zPl, zadd0, c25, k1]), rfl⟩
    rcases Decidable.em (S 3 h = 2) with k2 | k2
    · refine W.eq (g2 := F0 m 54 ls (.int 2 :: [])) (by rw [k2]) ?_
      refine lv_tableIn (off := 36) (tgt := 90) hx hb dX6_growsOf_54 (by decide) (by decide) (by decide) (by decide) ?_
      refine lv_iconst (v := 1) hx hb dX6_growsOf_90 (by decide) ?_
      exact zFG.iret hx hb hr hlocks hQ hw rfl dX6_growsOf_91 ⟨zsi (by simp [zGs, zGr, zPl, zadd0, c25, k1, k2]), rfl⟩
    rcases Decidable.em (S 3 h = 3) with k3 | k3
    · refine W.eq (g2 := F0 m 54 ls (.int 3 :: [])) (by rw [k3]) ?_
      refine lv_tableIn (off := 38) (tgt := 92) hx hb dX6_growsOf_54 (by decide) (by decide) (by decide) (by decide) ?_
      refine lv_aload_n hx hb dX6_growsOf_92 rfl (lv_at hl 2 rfl) ?_
      refine zcVwi (r := zWo S) hx hb hml hown hts hl.1 hK hE hA lkX6_87 (c_X6_weekOfYear x a q g nu S ) ⟨Nat.le_of_ble_eq_true rfl, Nat.le_of_ble_eq_true rfl⟩ ⟨Nat.zero_le _, Nat.zero_le _⟩ hw 0 4 rfl rfl rfl rfl (Nat.le_of_ble_eq_true rfl) dX6_growsOf_93 (fun H locs hw => ?_)
      have hw : zHw x A s.heap (zMW x a q g nu (zflat S)) H locs := hw
      refine lv_bipush (v := 9) hx hb dX6_growsOf_96 (by decide) ?_
      refine lv_irem hx hb dX6_growsOf_98 (by decide) ?_
      refine lv_if_ne (tgt := 108) hx hb dX6_growsOf_99 (by decide) (fun c99 => ?_) (fun c99 => ?_)
      · refine lv_iload_n hx hb dX6_growsOf_108 rfl (lv_at hl 1 rfl) ?_
        exact zFG.iret hx hb hr hlocks hQ hw rfl dX6_growsOf_109 ⟨zsi (by simp [zGs, zGr, zPl, zadd0, c25, k1, k2, k3, c99]), rfl⟩
      · refine lv_iload_n hx hb dX6_growsOf_102 rfl (lv_at hl 1 rfl) ?_
        refine lv_iconst (v := 3) hx hb dX6_growsOf_103 (by decide) ?_
        refine lv_iadd hx hb dX6_growsOf_104 ?_
        refine lv_goto (tgt := 109) hx hb dX6_growsOf_105 (by decide) ?_
        exact zFG.iret hx hb hr hlocks hQ hw rfl dX6_growsOf_109 ⟨zsi (by simp [zGs, zGr, zPl, zadd0, c25, k1, k2, k3, c99]), rfl⟩
    rcases Decidable.em (S 3 h = 4) with k4 | k4
    · refine W.eq (g2 := F0 m 54 ls (.int 4 :: [])) (by rw [k4]) ?_
      refine lv_tableIn (off := 56) (tgt := 110) hx hb dX6_growsOf_54 (by decide) (by decide) (by decide) (by decide) ?_
      refine lv_iload_n hx hb dX6_growsOf_110 rfl (lv_at hl 0 rfl) ?_
      refine lv_iconst (v := 1) hx hb dX6_growsOf_111 (by decide) ?_
      refine lv_isub hx hb dX6_growsOf_112 ?_
      exact zFG.iret hx hb hr hlocks hQ hw rfl dX6_growsOf_113 ⟨zsi (by simp [zGs, zGr, zPl, zadd0, c25, k1, k2, k3, k4]), rfl⟩
    rcases Decidable.em (S 3 h = 5) with k5 | k5
    · refine W.eq (g2 := F0 m 54 ls (.int 5 :: [])) (by rw [k5]) ?_
      refine lv_tableIn (off := 60) (tgt := 114) hx hb dX6_growsOf_54 (by decide) (by decide) (by decide) (by decide) ?_
      refine lv_aload_n hx hb dX6_growsOf_114 rfl (lv_at hl 2 rfl) ?_
      refine zcVwi (r := zb (zFr (zWo S))) hx hb hml hown hts hl.1 hK hE hA lkX6_91 (c_X6_isFrost x a q g nu S ) ⟨Nat.le_of_ble_eq_true rfl, Nat.le_of_ble_eq_true rfl⟩ ⟨Nat.zero_le _, Nat.zero_le _⟩ hw 0 4 rfl rfl rfl rfl (Nat.le_of_ble_eq_true rfl) dX6_growsOf_115 (fun H locs hw => ?_)
      have hw : zHw x A s.heap (zMW x a q g nu (zflat S)) H locs := hw
      refine lv_if_eq (tgt := 125) hx hb dX6_growsOf_118 (by decide) (fun c118 => ?_) (fun c118 => absurd (zb_0.mpr c25) c118)
      refine lv_iconst (v := 1) hx hb dX6_growsOf_125 (by decide) ?_
      exact zFG.iret hx hb hr hlocks hQ hw rfl dX6_growsOf_126 ⟨zsi (by simp [zGs, zGr, zPl, zadd0, c25, k1, k2, k3, k4, k5]), rfl⟩
    refine lv_tableOut (tgt := 127) hx hb dX6_growsOf_54 (zoutp5 k1 k2 k3 k4 k5) (by decide) ?_
    refine lv_iload_n hx hb dX6_growsOf_127 rfl (lv_at hl 1 rfl) ?_
    exact zFG.iret hx hb hr hlocks hQ hw rfl dX6_growsOf_128 ⟨zsi (by simp [zGs, zGr, zPl, zadd0, c25, k1, k2, k3, k4, k5]), rfl⟩
  · have c25 := zb_n0.mp c25
    refine lv_iload_n hx hb dX6_growsOf_28 rfl (lv_at hl 0 rfl) ?_
    refine lv_iconst (v := 2) hx hb dX6_growsOf_29 (by decide) ?_
    refine lv_iadd hx hb dX6_growsOf_30 ?_
    refine lv_goto (tgt := 35) hx hb dX6_growsOf_31 (by decide) ?_
    refine lv_istore_n (lv' := [(2, .int ((1 + ((S 1 (zSr S h)) / 10)) + 2)), (0, .ref (a 0)), (1, .int (nI h))]) hx hb dX6_growsOf_35 rfl hl (by decide) rfl (fun ls hl => ?_)
    refine lv_iload_n hx hb dX6_growsOf_36 rfl (lv_at hl 0 rfl) ?_
    refine lv_aload_n hx hb dX6_growsOf_37 rfl (lv_at hl 1 rfl) ?_
    refine lv_iload_n hx hb dX6_growsOf_38 rfl (lv_at hl 2 rfl) ?_
    refine lv_iconst (v := 2) hx hb dX6_growsOf_39 (by decide) ?_
    refine zcVwi (r := S 5 h) hx hb hml hown hts hl.1 hK hE hA lkX6_74 (c_X6_its x a q g nu S h 2 (by omega) (by omega)) ⟨Nat.le_of_ble_eq_true rfl, Nat.le_of_ble_eq_true rfl⟩ ⟨Nat.zero_le _, Nat.zero_le _⟩ hw 0 4 rfl rfl rfl rfl (Nat.le_of_ble_eq_true rfl) dX6_growsOf_40 (fun H locs hw => ?_)
    have hw : zHw x A s.heap (zMW x a q g nu (zflat S)) H locs := hw
    refine lv_bipush (v := 20) hx hb dX6_growsOf_43 (by decide) ?_
    refine lv_idiv hx hb dX6_growsOf_45 (by decide) ?_
    refine lv_iadd hx hb dX6_growsOf_46 ?_
    refine lv_istore_n (lv' := [(3, .int (((1 + ((S 1 (zSr S h)) / 10)) + 2) + ((S 5 h) / 20))), (2, .int ((1 + ((S 1 (zSr S h)) / 10)) + 2)), (0, .ref (a 0)), (1, .int (nI h))]) hx hb dX6_growsOf_47 rfl hl (by decide) rfl (fun ls hl => ?_)
    refine lv_aload_n hx hb dX6_growsOf_48 rfl (lv_at hl 2 rfl) ?_
    refine lv_iload_n hx hb dX6_growsOf_49 rfl (lv_at hl 3 rfl) ?_
    refine lv_iconst (v := 0) hx hb dX6_growsOf_50 (by decide) ?_
    refine zcVwi (r := S 3 h) hx hb hml hown hts hl.1 hK hE hA lkX6_74 (c_X6_its x a q g nu S h 0 (by omega) (by omega)) ⟨Nat.le_of_ble_eq_true rfl, Nat.le_of_ble_eq_true rfl⟩ ⟨Nat.zero_le _, Nat.zero_le _⟩ hw 0 4 rfl rfl rfl rfl (Nat.le_of_ble_eq_true rfl) dX6_growsOf_51 (fun H locs hw => ?_)
    have hw : zHw x A s.heap (zMW x a q g nu (zflat S)) H locs := hw
    rcases Decidable.em (S 3 h = 1) with k1 | k1
    · refine W.eq (g2 := F0 m 54 ls (.int 1 :: [])) (by rw [k1]) ?_
      refine lv_tableIn (off := 34) (tgt := 88) hx hb dX6_growsOf_54 (by decide) (by decide) (by decide) (by decide) ?_
      refine lv_iload_n hx hb dX6_growsOf_88 rfl (lv_at hl 0 rfl) ?_
      exact zFG.iret hx hb hr hlocks hQ hw rfl dX6_growsOf_89 ⟨zsi (by simp [zGs, zGr, zPl, zadd0, c25, k1]), rfl⟩
    rcases Decidable.em (S 3 h = 2) with k2 | k2
    · refine W.eq (g2 := F0 m 54 ls (.int 2 :: [])) (by rw [k2]) ?_
      refine lv_tableIn (off := 36) (tgt := 90) hx hb dX6_growsOf_54 (by decide) (by decide) (by decide) (by decide) ?_
      refine lv_iconst (v := 1) hx hb dX6_growsOf_90 (by decide) ?_
      exact zFG.iret hx hb hr hlocks hQ hw rfl dX6_growsOf_91 ⟨zsi (by simp [zGs, zGr, zPl, zadd0, c25, k1, k2]), rfl⟩
    rcases Decidable.em (S 3 h = 3) with k3 | k3
    · refine W.eq (g2 := F0 m 54 ls (.int 3 :: [])) (by rw [k3]) ?_
      refine lv_tableIn (off := 38) (tgt := 92) hx hb dX6_growsOf_54 (by decide) (by decide) (by decide) (by decide) ?_
      refine lv_aload_n hx hb dX6_growsOf_92 rfl (lv_at hl 2 rfl) ?_
      refine zcVwi (r := zWo S) hx hb hml hown hts hl.1 hK hE hA lkX6_87 (c_X6_weekOfYear x a q g nu S ) ⟨Nat.le_of_ble_eq_true rfl, Nat.le_of_ble_eq_true rfl⟩ ⟨Nat.zero_le _, Nat.zero_le _⟩ hw 0 4 rfl rfl rfl rfl (Nat.le_of_ble_eq_true rfl) dX6_growsOf_93 (fun H locs hw => ?_)
      have hw : zHw x A s.heap (zMW x a q g nu (zflat S)) H locs := hw
      refine lv_bipush (v := 9) hx hb dX6_growsOf_96 (by decide) ?_
      refine lv_irem hx hb dX6_growsOf_98 (by decide) ?_
      refine lv_if_ne (tgt := 108) hx hb dX6_growsOf_99 (by decide) (fun c99 => ?_) (fun c99 => ?_)
      · refine lv_iload_n hx hb dX6_growsOf_108 rfl (lv_at hl 1 rfl) ?_
        exact zFG.iret hx hb hr hlocks hQ hw rfl dX6_growsOf_109 ⟨zsi (by simp [zGs, zGr, zPl, zadd0, c25, k1, k2, k3, c99]), rfl⟩
      · refine lv_iload_n hx hb dX6_growsOf_102 rfl (lv_at hl 1 rfl) ?_
        refine lv_iconst (v := 3) hx hb dX6_growsOf_103 (by decide) ?_
        refine lv_iadd hx hb dX6_growsOf_104 ?_
        refine lv_goto (tgt := 109) hx hb dX6_growsOf_105 (by decide) ?_
        exact zFG.iret hx hb hr hlocks hQ hw rfl dX6_growsOf_109 ⟨zsi (by simp [zGs, zGr, zPl, zadd0, c25, k1, k2, k3, c99]), rfl⟩
    rcases Decidable.em (S 3 h = 4) with k4 | k4
    · refine W.eq (g2 := F0 m 54 ls (.int 4 :: [])) (by rw [k4]) ?_
      refine lv_tableIn (off := 56) (tgt := 110) hx hb dX6_growsOf_54 (by decide) (by decide) (by decide) (by decide) ?_
      refine lv_iload_n hx hb dX6_growsOf_110 rfl (lv_at hl 0 rfl) ?_
      refine lv_iconst (v := 1) hx hb dX6_growsOf_111 (by decide) ?_
      refine lv_isub hx hb dX6_growsOf_112 ?_
      exact zFG.iret hx hb hr hlocks hQ hw rfl dX6_growsOf_113 ⟨zsi (by simp [zGs, zGr, zPl, zadd0, c25, k1, k2, k3, k4]), rfl⟩
    rcases Decidable.em (S 3 h = 5) with k5 | k5
    · refine W.eq (g2 := F0 m 54 ls (.int 5 :: [])) (by rw [k5]) ?_
      refine lv_tableIn (off := 60) (tgt := 114) hx hb dX6_growsOf_54 (by decide) (by decide) (by decide) (by decide) ?_
      refine lv_aload_n hx hb dX6_growsOf_114 rfl (lv_at hl 2 rfl) ?_
      refine zcVwi (r := zb (zFr (zWo S))) hx hb hml hown hts hl.1 hK hE hA lkX6_91 (c_X6_isFrost x a q g nu S ) ⟨Nat.le_of_ble_eq_true rfl, Nat.le_of_ble_eq_true rfl⟩ ⟨Nat.zero_le _, Nat.zero_le _⟩ hw 0 4 rfl rfl rfl rfl (Nat.le_of_ble_eq_true rfl) dX6_growsOf_115 (fun H locs hw => ?_)
      have hw : zHw x A s.heap (zMW x a q g nu (zflat S)) H locs := hw
      refine lv_if_eq (tgt := 125) hx hb dX6_growsOf_118 (by decide) (fun c118 => absurd c118 (zb_n0.mpr c25)) (fun c118 => ?_)
      refine lv_iconst (v := 2) hx hb dX6_growsOf_121 (by decide) ?_
      refine lv_goto (tgt := 126) hx hb dX6_growsOf_122 (by decide) ?_
      exact zFG.iret hx hb hr hlocks hQ hw rfl dX6_growsOf_126 ⟨zsi (by simp [zGs, zGr, zPl, zadd0, c25, k1, k2, k3, k4, k5]), rfl⟩
    refine lv_tableOut (tgt := 127) hx hb dX6_growsOf_54 (zoutp5 k1 k2 k3 k4 k5) (by decide) ?_
    refine lv_iload_n hx hb dX6_growsOf_127 rfl (lv_at hl 1 rfl) ?_
    exact zFG.iret hx hb hr hlocks hQ hw rfl dX6_growsOf_128 ⟨zsi (by simp [zGs, zGr, zPl, zadd0, c25, k1, k2, k3, k4, k5]), rfl⟩

set_option maxHeartbeats 4000000 in
set_option maxRecDepth 100000 in
theorem c_X6_holdsOf (x : zX) (a : Nat → Nat) (q : Nat → Int32) (g : zT) (nu : Nat → Nat → Int64) (S : zT) (h : Nat) (f b : Int32) (hh : h < 8) (hbf : b = zb (f = 2)) : zFF x mX6_holdsOf 2 [.ref (a 0), .int (nI h), .int b] (zMW x a q g nu (zflat S)) (some (.int (zHd (S 3 h) f))) (zMW x a q g nu (zflat S)) := by
  refine zFG.start RX6 cX6_holdsOf 4 (some .int) rfl rfl (by decide +kernel) (Nat.le_of_ble_eq_true rfl) ?_
  intro p e s m ar below meth c ls A Q hx hb hr hml hown hts hlocks hK hE hA hQ hl hw
  have hl : lv_has ls 4 [(0, .ref (a 0)), (1, .int (nI h)), (2, .int b)] := hl
  have hw : zHw x A s.heap (zMW x a q g nu (zflat S)) s.heap [] := hw
  refine lv_iload_n hx hb dX6_holdsOf_0 rfl (lv_at hl 2 rfl) ?_
  refine lv_if_eq (tgt := 9) hx hb dX6_holdsOf_1 (by decide) (fun c1 => ?_) (fun c1 => ?_)
  · have f2 : ¬ f = 2 := zb_0.mp (by rw [← hbf]; exact c1)
    refine lv_iconst (v := 3) hx hb dX6_holdsOf_9 (by decide) ?_
    refine lv_istore_n (lv' := [(3, .int 3), (0, .ref (a 0)), (1, .int (nI h)), (2, .int b)]) hx hb dX6_holdsOf_10 rfl hl (by decide) rfl (fun ls hl => ?_)
    refine lv_aload_n hx hb dX6_holdsOf_11 rfl (lv_at hl 1 rfl) ?_
    refine lv_iload_n hx hb dX6_holdsOf_12 rfl (lv_at hl 2 rfl) ?_
    refine lv_iconst (v := 0) hx hb dX6_holdsOf_13 (by decide) ?_
    refine zcVwi (r := S 3 h) hx hb hml hown hts hl.1 hK hE hA lkX6_74 (c_X6_its x a q g nu S h 0 (by omega) (by omega)) ⟨Nat.le_of_ble_eq_true rfl, Nat.le_of_ble_eq_true rfl⟩ ⟨Nat.zero_le _, Nat.zero_le _⟩ hw 0 4 rfl rfl rfl rfl (Nat.le_of_ble_eq_true rfl) dX6_holdsOf_14 (fun H locs hw => ?_)
    have hw : zHw x A s.heap (zMW x a q g nu (zflat S)) H locs := hw
    rcases Decidable.em (S 3 h = 1) with k1 | k1
    · refine W.eq (g2 := F0 m 17 ls (.int 1 :: [])) (by rw [k1]) ?_
      refine lv_tableIn (off := 35) (tgt := 52) hx hb dX6_holdsOf_17 (by decide) (by decide) (by decide) (by decide) ?_
      refine lv_iload_n hx hb dX6_holdsOf_52 rfl (lv_at hl 0 rfl) ?_
      refine lv_iconst (v := 1) hx hb dX6_holdsOf_53 (by decide) ?_
      refine lv_isub hx hb dX6_holdsOf_54 ?_
      exact zFG.iret hx hb hr hlocks hQ hw rfl dX6_holdsOf_55 ⟨zsi (by simp [zHd, zHp, f2, k1]), rfl⟩
    rcases Decidable.em (S 3 h = 2) with k2 | k2
    · refine W.eq (g2 := F0 m 17 ls (.int 2 :: [])) (by rw [k2]) ?_
      refine lv_tableIn (off := 39) (tgt := 56) hx hb dX6_holdsOf_17 (by decide) (by decide) (by decide) (by decide) ?_
      refine lv_iload_n hx hb dX6_holdsOf_56 rfl (lv_at hl 0 rfl) ?_
      refine lv_iconst (v := 5) hx hb dX6_holdsOf_57 (by decide) ?_
      refine lv_iadd hx hb dX6_holdsOf_58 ?_
      exact zFG.iret hx hb hr hlocks hQ hw rfl dX6_holdsOf_59 ⟨zsi (by simp [zHd, zHp, f2, k1, k2]), rfl⟩
    rcases Decidable.em (S 3 h = 3) with k3 | k3
    · refine W.eq (g2 := F0 m 17 ls (.int 3 :: [])) (by rw [k3]) ?_
      refine lv_tableIn (off := 43) (tgt := 60) hx hb dX6_holdsOf_17 (by decide) (by decide) (by decide) (by decide) ?_
      refine lv_iload_n hx hb dX6_holdsOf_60 rfl (lv_at hl 0 rfl) ?_
      refine lv_iconst (v := 2) hx hb dX6_holdsOf_61 (by decide) ?_
      refine lv_idiv hx hb dX6_holdsOf_62 (by decide) ?_
      exact zFG.iret hx hb hr hlocks hQ hw rfl dX6_holdsOf_63 ⟨zsi (by simp [zHd, zHp, f2, k1, k2, k3]), rfl⟩
    rcases Decidable.em (S 3 h = 4) with k4 | k4
    · refine W.eq (g2 := F0 m 17 ls (.int 4 :: [])) (by rw [k4]) ?_
      refine lv_tableIn (off := 35) (tgt := 52) hx hb dX6_holdsOf_17 (by decide) (by decide) (by decide) (by decide) ?_
      refine lv_iload_n hx hb dX6_holdsOf_52 rfl (lv_at hl 0 rfl) ?_
      refine lv_iconst (v := 1) hx hb dX6_holdsOf_53 (by decide) ?_
      refine lv_isub hx hb dX6_holdsOf_54 ?_
      exact zFG.iret hx hb hr hlocks hQ hw rfl dX6_holdsOf_55 ⟨zsi (by simp [zHd, zHp, f2, k1, k2, k3, k4]), rfl⟩
    rcases Decidable.em (S 3 h = 5) with k5 | k5
    · refine W.eq (g2 := F0 m 17 ls (.int 5 :: [])) (by rw [k5]) ?_
      refine lv_tableIn (off := 47) (tgt := 64) hx hb dX6_holdsOf_17 (by decide) (by decide) (by decide) (by decide) ?_
      refine lv_iconst (v := 2) hx hb dX6_holdsOf_64 (by decide) ?_
      refine lv_iload_n hx hb dX6_holdsOf_65 rfl (lv_at hl 0 rfl) ?_
      refine lv_iconst (v := 5) hx hb dX6_holdsOf_66 (by decide) ?_
      refine lv_iadd hx hb dX6_holdsOf_67 ?_
      refine lv_imul hx hb dX6_holdsOf_68 ?_
      exact zFG.iret hx hb hr hlocks hQ hw rfl dX6_holdsOf_69 ⟨zsi (by simp [zHd, zHp, f2, k1, k2, k3, k4, k5]), rfl⟩
    refine lv_tableOut (tgt := 70) hx hb dX6_holdsOf_17 (zoutp5 k1 k2 k3 k4 k5) (by decide) ?_
    refine lv_iload_n hx hb dX6_holdsOf_70 rfl (lv_at hl 0 rfl) ?_
    exact zFG.iret hx hb hr hlocks hQ hw rfl dX6_holdsOf_71 ⟨zsi (by simp [zHd, zHp, f2, k1, k2, k3, k4, k5]), rfl⟩
  · have f2 : f = 2 := zb_n0.mp (by rw [← hbf]; exact c1)
    refine lv_bipush (v := 40) hx hb dX6_holdsOf_4 (by decide) ?_
    refine lv_goto (tgt := 10) hx hb dX6_holdsOf_6 (by decide) ?_
    refine lv_istore_n (lv' := [(3, .int 40), (0, .ref (a 0)), (1, .int (nI h)), (2, .int b)]) hx hb dX6_holdsOf_10 rfl hl (by decide) rfl (fun ls hl => ?_)
    refine lv_aload_n hx hb dX6_holdsOf_11 rfl (lv_at hl 1 rfl) ?_
    refine lv_iload_n hx hb dX6_holdsOf_12 rfl (lv_at hl 2 rfl) ?_
    refine lv_iconst (v := 0) hx hb dX6_holdsOf_13 (by decide) ?_
    refine zcVwi (r := S 3 h) hx hb hml hown hts hl.1 hK hE hA lkX6_74 (c_X6_its x a q g nu S h 0 (by omega) (by omega)) ⟨Nat.le_of_ble_eq_true rfl, Nat.le_of_ble_eq_true rfl⟩ ⟨Nat.zero_le _, Nat.zero_le _⟩ hw 0 4 rfl rfl rfl rfl (Nat.le_of_ble_eq_true rfl) dX6_holdsOf_14 (fun H locs hw => ?_)
    have hw : zHw x A s.heap (zMW x a q g nu (zflat S)) H locs := hw
    rcases Decidable.em (S 3 h = 1) with k1 | k1
    · refine W.eq (g2 := F0 m 17 ls (.int 1 :: [])) (by rw [k1]) ?_
      refine lv_tableIn (off := 35) (tgt := 52) hx hb dX6_holdsOf_17 (by decide) (by decide) (by decide) (by decide) ?_
      refine lv_iload_n hx hb dX6_holdsOf_52 rfl (lv_at hl 0 rfl) ?_
      refine lv_iconst (v := 1) hx hb dX6_holdsOf_53 (by decide) ?_
      refine lv_isub hx hb dX6_holdsOf_54 ?_
      exact zFG.iret hx hb hr hlocks hQ hw rfl dX6_holdsOf_55 ⟨zsi (by simp [zHd, zHp, f2, k1]), rfl⟩
    rcases Decidable.em (S 3 h = 2) with k2 | k2
    · refine W.eq (g2 := F0 m 17 ls (.int 2 :: [])) (by rw [k2]) ?_
      refine lv_tableIn (off := 39) (tgt := 56) hx hb dX6_holdsOf_17 (by decide) (by decide) (by decide) (by decide) ?_
      refine lv_iload_n hx hb dX6_holdsOf_56 rfl (lv_at hl 0 rfl) ?_
      refine lv_iconst (v := 5) hx hb dX6_holdsOf_57 (by decide) ?_
      refine lv_iadd hx hb dX6_holdsOf_58 ?_
      exact zFG.iret hx hb hr hlocks hQ hw rfl dX6_holdsOf_59 ⟨zsi (by simp [zHd, zHp, f2, k1, k2]), rfl⟩
    rcases Decidable.em (S 3 h = 3) with k3 | k3
    · refine W.eq (g2 := F0 m 17 ls (.int 3 :: [])) (by rw [k3]) ?_
      refine lv_tableIn (off := 43) (tgt := 60) hx hb dX6_holdsOf_17 (by decide) (by decide) (by decide) (by decide) ?_
      refine lv_iload_n hx hb dX6_holdsOf_60 rfl (lv_at hl 0 rfl) ?_
      refine lv_iconst (v := 2) hx hb dX6_holdsOf_61 (by decide) ?_
      refine lv_idiv hx hb dX6_holdsOf_62 (by decide) ?_
      exact zFG.iret hx hb hr hlocks hQ hw rfl dX6_holdsOf_63 ⟨zsi (by simp [zHd, zHp, f2, k1, k2, k3]), rfl⟩
    rcases Decidable.em (S 3 h = 4) with k4 | k4
    · refine W.eq (g2 := F0 m 17 ls (.int 4 :: [])) (by rw [k4]) ?_
      refine lv_tableIn (off := 35) (tgt := 52) hx hb dX6_holdsOf_17 (by decide) (by decide) (by decide) (by decide) ?_
      refine lv_iload_n hx hb dX6_holdsOf_52 rfl (lv_at hl 0 rfl) ?_
      refine lv_iconst (v := 1) hx hb dX6_holdsOf_53 (by decide) ?_
      refine lv_isub hx hb dX6_holdsOf_54 ?_
      exact zFG.iret hx hb hr hlocks hQ hw rfl dX6_holdsOf_55 ⟨zsi (by simp [zHd, zHp, f2, k1, k2, k3, k4]), rfl⟩
    rcases Decidable.em (S 3 h = 5) with k5 | k5
    · refine W.eq (g2 := F0 m 17 ls (.int 5 :: [])) (by rw [k5]) ?_
      refine lv_tableIn (off := 47) (tgt := 64) hx hb dX6_holdsOf_17 (by decide) (by decide) (by decide) (by decide) ?_
      refine lv_iconst (v := 2) hx hb dX6_holdsOf_64 (by decide) ?_
      refine lv_iload_n hx hb dX6_holdsOf_65 rfl (lv_at hl 0 rfl) ?_
      refine lv_iconst (v := 5) hx hb dX6_holdsOf_66 (by decide) ?_
      refine lv_iadd hx hb dX6_holdsOf_67 ?_
      refine lv_imul hx hb dX6_holdsOf_68 ?_
      exact zFG.iret hx hb hr hlocks hQ hw rfl dX6_holdsOf_69 ⟨zsi (by simp [zHd, zHp, f2, k1, k2, k3, k4, k5]), rfl⟩
    refine lv_tableOut (tgt := 70) hx hb dX6_holdsOf_17 (zoutp5 k1 k2 k3 k4 k5) (by decide) ?_
    refine lv_iload_n hx hb dX6_holdsOf_70 rfl (lv_at hl 0 rfl) ?_
    exact zFG.iret hx hb hr hlocks hQ hw rfl dX6_holdsOf_71 ⟨zsi (by simp [zHd, zHp, f2, k1, k2, k3, k4, k5]), rfl⟩

set_option maxHeartbeats 4000000 in
set_option maxRecDepth 100000 in
theorem c_X6_costsOf (x : zX) (a : Nat → Nat) (q : Nat → Int32) (g : zT) (nu : Nat → Nat → Int64) (S : zT) (h : Nat) (hh : h < 8) : zFF x mX6_costsOf 2 [.ref (a 0), .int (nI h)] (zMW x a q g nu (zflat S)) (some (.int (zCp (S 3 h) (S 5 h)))) (zMW x a q g nu (zflat S)) := by
  refine zFG.start RX6 cX6_costsOf 3 (some .int) rfl rfl (by decide +kernel) (Nat.le_of_ble_eq_true rfl) ?_
  intro p e s m ar below meth c ls A Q hx hb hr hml hown hts hlocks hK hE hA hQ hl hw
  have hl : lv_has ls 3 [(0, .ref (a 0)), (1, .int (nI h))] := hl
  have hw : zHw x A s.heap (zMW x a q g nu (zflat S)) s.heap [] := hw
  refine lv_iconst (v := 5) hx hb dX6_costsOf_0 (by decide) ?_
  refine lv_aload_n hx hb dX6_costsOf_1 rfl (lv_at hl 0 rfl) ?_
  refine lv_iload_n hx hb dX6_costsOf_2 rfl (lv_at hl 1 rfl) ?_
  refine lv_iconst (v := 2) hx hb dX6_costsOf_3 (by decide) ?_
  refine zcVwi (r := S 5 h) hx hb hml hown hts hl.1 hK hE hA lkX6_74 (c_X6_its x a q g nu S h 2 (by omega) (by omega)) ⟨Nat.le_of_ble_eq_true rfl, Nat.le_of_ble_eq_true rfl⟩ ⟨Nat.zero_le _, Nat.zero_le _⟩ hw 0 4 rfl rfl rfl rfl (Nat.le_of_ble_eq_true rfl) dX6_costsOf_4 (fun H locs hw => ?_)
  have hw : zHw x A s.heap (zMW x a q g nu (zflat S)) H locs := hw
  refine lv_bipush (v := 10) hx hb dX6_costsOf_7 (by decide) ?_
  refine lv_idiv hx hb dX6_costsOf_9 (by decide) ?_
  refine lv_iadd hx hb dX6_costsOf_10 ?_
  refine lv_istore_n (lv' := [(2, .int (5 + ((S 5 h) / 10))), (0, .ref (a 0)), (1, .int (nI h))]) hx hb dX6_costsOf_11 rfl hl (by decide) rfl (fun ls hl => ?_)
  refine lv_aload_n hx hb dX6_costsOf_12 rfl (lv_at hl 1 rfl) ?_
  refine lv_iload_n hx hb dX6_costsOf_13 rfl (lv_at hl 2 rfl) ?_
  refine lv_iconst (v := 0) hx hb dX6_costsOf_14 (by decide) ?_
  refine zcVwi (r := S 3 h) hx hb hml hown hts hl.1 hK hE hA lkX6_74 (c_X6_its x a q g nu S h 0 (by omega) (by omega)) ⟨Nat.le_of_ble_eq_true rfl, Nat.le_of_ble_eq_true rfl⟩ ⟨Nat.zero_le _, Nat.zero_le _⟩ hw 0 4 rfl rfl rfl rfl (Nat.le_of_ble_eq_true rfl) dX6_costsOf_15 (fun H locs hw => ?_)
  have hw : zHw x A s.heap (zMW x a q g nu (zflat S)) H locs := hw
  rcases Decidable.em (S 3 h = 1) with k1 | k1
  · refine W.eq (g2 := F0 m 18 ls (.int 1 :: [])) (by rw [k1]) ?_
    refine lv_tableIn (off := 34) (tgt := 52) hx hb dX6_costsOf_18 (by decide) (by decide) (by decide) (by decide) ?_
    refine lv_iload_n hx hb dX6_costsOf_52 rfl (lv_at hl 0 rfl) ?_
    refine lv_iconst (v := 3) hx hb dX6_costsOf_53 (by decide) ?_
    refine lv_iadd hx hb dX6_costsOf_54 ?_
    exact zFG.iret hx hb hr hlocks hQ hw rfl dX6_costsOf_55 ⟨zsi (by simp [zCp, k1]), rfl⟩
  rcases Decidable.em (S 3 h = 2) with k2 | k2
  · refine W.eq (g2 := F0 m 18 ls (.int 2 :: [])) (by rw [k2]) ?_
    refine lv_tableIn (off := 38) (tgt := 56) hx hb dX6_costsOf_18 (by decide) (by decide) (by decide) (by decide) ?_
    refine lv_iconst (v := 2) hx hb dX6_costsOf_56 (by decide) ?_
    exact zFG.iret hx hb hr hlocks hQ hw rfl dX6_costsOf_57 ⟨zsi (by simp [zCp, k1, k2]), rfl⟩
  rcases Decidable.em (S 3 h = 4) with k4 | k4
  · refine W.eq (g2 := F0 m 18 ls (.int 4 :: [])) (by rw [k4]) ?_
    refine lv_tableIn (off := 40) (tgt := 58) hx hb dX6_costsOf_18 (by decide) (by decide) (by decide) (by decide) ?_
    refine lv_iload_n hx hb dX6_costsOf_58 rfl (lv_at hl 0 rfl) ?_
    refine lv_iconst (v := 1) hx hb dX6_costsOf_59 (by decide) ?_
    refine lv_iadd hx hb dX6_costsOf_60 ?_
    exact zFG.iret hx hb hr hlocks hQ hw rfl dX6_costsOf_61 ⟨zsi (by simp [zCp, k1, k2, k4]), rfl⟩
  rcases Decidable.em (S 3 h = 5) with k5 | k5
  · refine W.eq (g2 := F0 m 18 ls (.int 5 :: [])) (by rw [k5]) ?_
    refine lv_tableIn (off := 44) (tgt := 62) hx hb dX6_costsOf_18 (by decide) (by decide) (by decide) (by decide) ?_
    refine lv_iconst (v := 3) hx hb dX6_costsOf_62 (by decide) ?_
    exact zFG.iret hx hb hr hlocks hQ hw rfl dX6_costsOf_63 ⟨zsi (by simp [zCp, k1, k2, k4, k5]), rfl⟩
  rcases Decidable.em (S 3 h = 3) with k3 | k3
  · refine W.eq (g2 := F0 m 18 ls (.int 3 :: [])) (by rw [k3]) ?_
    refine lv_tableIn (off := 46) (tgt := 64) hx hb dX6_costsOf_18 (by decide) (by decide) (by decide) (by decide) ?_
    refine lv_iload_n hx hb dX6_costsOf_64 rfl (lv_at hl 0 rfl) ?_
    exact zFG.iret hx hb hr hlocks hQ hw rfl dX6_costsOf_65 ⟨zsi (by simp [zCp, k1, k2, k4, k5, k3]), rfl⟩
  refine lv_tableOut (tgt := 64) hx hb dX6_costsOf_18 (zoutp5 k1 k2 k3 k4 k5) (by decide) ?_
  refine lv_iload_n hx hb dX6_costsOf_64 rfl (lv_at hl 0 rfl) ?_
  exact zFG.iret hx hb hr hlocks hQ hw rfl dX6_costsOf_65 ⟨zsi (by simp [zCp, k1, k2, k4, k5, k3]), rfl⟩

set_option maxHeartbeats 4000000 in
set_option maxRecDepth 100000 in
theorem c_X6_priceOf (x : zX) (a : Nat → Nat) (q : Nat → Int32) (g : zT) (nu : Nat → Nat → Int64) (S : zT) (h : Nat) (how : Int32) (hh : h < 8) (hw1 : how = 0 ∨ how = 1) : zFF x mX6_priceOf 3 [.ref (a 0), .int (nI h), .int how] (zMW x a q g nu (zflat S)) (some (.int (zPs S h how))) (zMW x a q g nu (zflat S)) := by
  refine zFG.start RX6 cX6_priceOf 3 (some .int) rfl rfl (by decide +kernel) (Nat.le_of_ble_eq_true rfl) ?_
  intro p e s m ar below meth c ls A Q hx hb hr hml hown hts hlocks hK hE hA hQ hl hw
  have hl : lv_has ls 3 [(0, .ref (a 0)), (1, .int (nI h)), (2, .int how)] := hl
  have hw : zHw x A s.heap (zMW x a q g nu (zflat S)) s.heap [] := hw
  refine lv_iload_n hx hb dX6_priceOf_0 rfl (lv_at hl 2 rfl) ?_
  refine lv_iconst (v := 1) hx hb dX6_priceOf_1 (by decide) ?_
  refine lv_icmp_ne (tgt := 16) hx hb dX6_priceOf_2 (by decide) (fun c2 => ?_) (fun c2 => ?_)
  · refine lv_aload_n hx hb dX6_priceOf_16 rfl (lv_at hl 0 rfl) ?_
    refine lv_iload_n hx hb dX6_priceOf_17 rfl (lv_at hl 1 rfl) ?_
    refine zcVwi (r := zCp (S 3 h) (S 5 h)) hx hb hml hown hts hl.1 hK hE hA lkX6_95 (c_X6_costsOf x a q g nu S h (by omega)) ⟨Nat.le_of_ble_eq_true rfl, Nat.le_of_ble_eq_true rfl⟩ ⟨Nat.zero_le _, Nat.zero_le _⟩ hw 0 4 rfl rfl rfl rfl (Nat.le_of_ble_eq_true rfl) dX6_priceOf_18 (fun H locs hw => ?_)
    have hw : zHw x A s.heap (zMW x a q g nu (zflat S)) H locs := hw
    exact zFG.iret hx hb hr hlocks hQ hw rfl dX6_priceOf_21 ⟨zsi (by rcases hw1 with rfl | rfl <;> first | (simp [zPs, zPr]; done) | exact absurd rfl c2 | exact absurd c2 (by decide)), rfl⟩
  · refine lv_bipush (v := 11) hx hb dX6_priceOf_5 (by decide) ?_
    refine lv_aload_n hx hb dX6_priceOf_7 rfl (lv_at hl 0 rfl) ?_
    refine lv_iload_n hx hb dX6_priceOf_8 rfl (lv_at hl 1 rfl) ?_
    refine zcVwi (r := zCp (S 3 h) (S 5 h)) hx hb hml hown hts hl.1 hK hE hA lkX6_95 (c_X6_costsOf x a q g nu S h (by omega)) ⟨Nat.le_of_ble_eq_true rfl, Nat.le_of_ble_eq_true rfl⟩ ⟨Nat.zero_le _, Nat.zero_le _⟩ hw 0 4 rfl rfl rfl rfl (Nat.le_of_ble_eq_true rfl) dX6_priceOf_9 (fun H locs hw => ?_)
    have hw : zHw x A s.heap (zMW x a q g nu (zflat S)) H locs := hw
    refine lv_imul hx hb dX6_priceOf_12 ?_
    refine lv_goto (tgt := 21) hx hb dX6_priceOf_13 (by decide) ?_
    exact zFG.iret hx hb hr hlocks hQ hw rfl dX6_priceOf_21 ⟨zsi (by rcases hw1 with rfl | rfl <;> first | (simp [zPs, zPr]; done) | exact absurd rfl c2 | exact absurd c2 (by decide)), rfl⟩

set_option maxHeartbeats 4000000 in
set_option maxRecDepth 100000 in
theorem c_X6_mayFill (x : zX) (a : Nat → Nat) (q : Nat → Int32) (g : zT) (nu : Nat → Nat → Int64) (S : zT) (h : Nat) (how : Int32) (hh : h < 8) (hw1 : how = 0 ∨ how = 1) : zFF x mX6_mayFill 4 [.ref (a 0), .int (nI h), .int how] (zMW x a q g nu (zflat S)) (some (.int (zb (S 6 h = 0 ∧ zPs S h how ≤ S 0 2)))) (zMW x a q g nu (zflat S)) := by
  refine zFG.start RX6 cX6_mayFill 3 (some .boolean) rfl rfl (by decide +kernel) (Nat.le_of_ble_eq_true rfl) ?_
  intro p e s m ar below meth c ls A Q hx hb hr hml hown hts hlocks hK hE hA hQ hl hw
  have hl : lv_has ls 3 [(0, .ref (a 0)), (1, .int (nI h)), (2, .int how)] := hl
  have hw : zHw x A s.heap (zMW x a q g nu (zflat S)) s.heap [] := hw
  refine lv_aload_n hx hb dX6_mayFill_0 rfl (lv_at hl 0 rfl) ?_
  refine lv_iload_n hx hb dX6_mayFill_1 rfl (lv_at hl 1 rfl) ?_
  refine lv_iconst (v := 3) hx hb dX6_mayFill_2 (by decide) ?_
  refine zcVwi (r := S 6 h) hx hb hml hown hts hl.1 hK hE hA lkX6_74 (c_X6_its x a q g nu S h 3 (by omega) (by omega)) ⟨Nat.le_of_ble_eq_true rfl, Nat.le_of_ble_eq_true rfl⟩ ⟨Nat.zero_le _, Nat.zero_le _⟩ hw 0 4 rfl rfl rfl rfl (Nat.le_of_ble_eq_true rfl) dX6_mayFill_3 (fun H locs hw => ?_)
  have hw : zHw x A s.heap (zMW x a q g nu (zflat S)) H locs := hw
  refine lv_if_ne (tgt := 28) hx hb dX6_mayFill_6 (by decide) (fun c6 => ?_) (fun c6 => ?_)
  · refine lv_iconst (v := 0) hx hb dX6_mayFill_28 (by decide) ?_
    exact zFG.zret hx hb hr hlocks hQ hw rfl dX6_mayFill_29 (by decide) ⟨zsi (by first | (symm; exact zb_t ⟨c6, Int32.not_lt.mp c21⟩) | (symm; exact zb_f (fun h => absurd h.2 (Int32.not_le.mpr c21))) | (symm; exact zb_f (fun h => c6 h.1))), rfl⟩
  · refine lv_aload_n hx hb dX6_mayFill_9 rfl (lv_at hl 0 rfl) ?_
    refine lv_iload_n hx hb dX6_mayFill_10 rfl (lv_at hl 1 rfl) ?_
    refine lv_iload_n hx hb dX6_mayFill_11 rfl (lv_at hl 2 rfl) ?_
    refine zcVwi (r := zPs S h how) hx hb hml hown hts hl.1 hK hE hA lkX6_122 (c_X6_priceOf x a q g nu S h how (by omega) hw1) ⟨Nat.le_of_ble_eq_true rfl, Nat.le_of_ble_eq_true rfl⟩ ⟨Nat.zero_le _, Nat.zero_le _⟩ hw 0 4 rfl rfl rfl rfl (Nat.le_of_ble_eq_true rfl) dX6_mayFill_12 (fun H locs hw => ?_)
    have hw : zHw x A s.heap (zMW x a q g nu (zflat S)) H locs := hw
    refine lv_aload_n hx hb dX6_mayFill_15 rfl (lv_at hl 0 rfl) ?_
    refine gfX6_7 hx hb hown hts hK hw 0 rfl rfl dX6_mayFill_16 ?_
    refine lv_iconst (v := 2) hx hb dX6_mayFill_19 (by decide) ?_
    refine zial2 (v := S 0 2) hx hb hK hw 1 0 2 rfl rfl rfl (by decide) (by decide) dX6_mayFill_20 rfl ?_
    refine lv_icmp_gt (tgt := 28) hx hb dX6_mayFill_21 (by decide) (fun c21 => ?_) (fun c21 => ?_)
    · refine lv_iconst (v := 0) hx hb dX6_mayFill_28 (by decide) ?_
      exact zFG.zret hx hb hr hlocks hQ hw rfl dX6_mayFill_29 (by decide) ⟨zsi (by first | (symm; exact zb_t ⟨c6, Int32.not_lt.mp c21⟩) | (symm; exact zb_f (fun h => absurd h.2 (Int32.not_le.mpr c21))) | (symm; exact zb_f (fun h => c6 h.1))), rfl⟩
    · refine lv_iconst (v := 1) hx hb dX6_mayFill_24 (by decide) ?_
      refine lv_goto (tgt := 29) hx hb dX6_mayFill_25 (by decide) ?_
      exact zFG.zret hx hb hr hlocks hQ hw rfl dX6_mayFill_29 (by decide) ⟨zsi (by first | (symm; exact zb_t ⟨c6, Int32.not_lt.mp c21⟩) | (symm; exact zb_f (fun h => absurd h.2 (Int32.not_le.mpr c21))) | (symm; exact zb_f (fun h => c6 h.1))), rfl⟩

set_option maxHeartbeats 4000000 in
set_option maxRecDepth 100000 in
theorem c_X6_fills (x : zX) (a : Nat → Nat) (q : Nat → Int32) (g : zT) (nu : Nat → Nat → Int64) (S : zT) (h : Nat) (how : Int32) (hh : h < 8) (hw1 : how = 0 ∨ how = 1) : zFF x mX6_fills 4 [.ref (a 0), .int (nI h), .int how] (zMW x a q g nu (zflat S)) (some (.int (zPs S h how))) (zMW x a q g nu (zflat (zFi S h how))) := by
  refine zFG.start RX6 cX6_fills 4 (some .int) rfl rfl (by decide +kernel) (Nat.le_of_ble_eq_true rfl) ?_
  intro p e s m ar below meth c ls A Q hx hb hr hml hown hts hlocks hK hE hA hQ hl hw
  have hl : lv_has ls 4 [(0, .ref (a 0)), (1, .int (nI h)), (2, .int how)] := hl
  have hw : zHw x A s.heap (zMW x a q g nu (zflat S)) s.heap [] := hw
  refine lv_aload_n hx hb dX6_fills_0 rfl (lv_at hl 0 rfl) ?_
  refine lv_iload_n hx hb dX6_fills_1 rfl (lv_at hl 1 rfl) ?_
  refine lv_iload_n hx hb dX6_fills_2 rfl (lv_at hl 2 rfl) ?_
  refine zcVwi (r := zPs S h how) hx hb hml hown hts hl.1 hK hE hA lkX6_122 (c_X6_priceOf x a q g nu S h how (by omega) hw1) ⟨Nat.le_of_ble_eq_true rfl, Nat.le_of_ble_eq_true rfl⟩ ⟨Nat.zero_le _, Nat.zero_le _⟩ hw 0 4 rfl rfl rfl rfl (Nat.le_of_ble_eq_true rfl) dX6_fills_3 (fun H locs hw => ?_)
  have hw : zHw x A s.heap (zMW x a q g nu (zflat S)) H locs := hw
  refine lv_istore_n (lv' := [(3, .int (zPs S h how)), (0, .ref (a 0)), (1, .int (nI h)), (2, .int how)]) hx hb dX6_fills_6 rfl hl (by decide) rfl (fun ls hl => ?_)
  refine lv_aload_n hx hb dX6_fills_7 rfl (lv_at hl 1 rfl) ?_
  refine gfX6_7 hx hb hown hts hK hw 0 rfl rfl dX6_fills_8 ?_
  refine lv_iconst (v := 2) hx hb dX6_fills_11 (by decide) ?_
  refine lv_dup2_11 hx hb dX6_fills_12 rfl rfl ?_
  refine zial2 (v := S 0 2) hx hb hK hw 1 0 2 rfl rfl rfl (by decide) (by decide) dX6_fills_13 rfl ?_
  refine lv_iload_n hx hb dX6_fills_14 rfl (lv_at hl 0 rfl) ?_
  refine lv_isub hx hb dX6_fills_15 ?_
  refine zias2 (f' := zflat (zU S 0 2 ((S 0 2) - (zPs S h how)))) hx hb hK hw 1 0 2 rfl rfl rfl (by decide) (by decide) dX6_fills_16 (zflat_usc S _ (by decide)) (fun H locs hw => ?_)
  have hw : zHw x A s.heap (zMW x a q g nu (zflat (zU S 0 2 ((S 0 2) - (zPs S h how))))) H locs := hw
  refine lv_aload_n hx hb dX6_fills_17 rfl (lv_at hl 1 rfl) ?_
  refine gfX6_7 hx hb hown hts hK hw 0 rfl rfl dX6_fills_18 ?_
  refine lv_bipush (v := 6) hx hb dX6_fills_21 (by decide) ?_
  refine lv_aload_n hx hb dX6_fills_23 rfl (lv_at hl 1 rfl) ?_
  refine gfX6_7 hx hb hown hts hK hw 0 rfl rfl dX6_fills_24 ?_
  refine lv_bipush (v := 6) hx hb dX6_fills_27 (by decide) ?_
  refine zial2 (v := (zU S 0 2 ((S 0 2) - (zPs S h how))) 0 6) hx hb hK hw 1 0 6 rfl rfl rfl (by decide) (by decide) dX6_fills_29 rfl ?_
  refine lv_iload_n hx hb dX6_fills_30 rfl (lv_at hl 0 rfl) ?_
  refine lv_iadd hx hb dX6_fills_31 ?_
  refine lv_ldc (v := 9999999) hx hb hown (hts _ ckX6_125) dX6_fills_32 ?_
  refine zcSwi (r := zHt (((zU S 0 2 ((S 0 2) - (zPs S h how))) 0 6) + (zPs S h how)) 9999999) hx hb hml hown hts hl.1 hK hE hA lkX6_126 (c_X6_heldTo x (zMW x a q g nu (zflat (zU S 0 2 ((S 0 2) - (zPs S h how))))) (((zU S 0 2 ((S 0 2) - (zPs S h how))) 0 6) + (zPs S h how)) 9999999) ⟨Nat.le_of_ble_eq_true rfl, Nat.le_of_ble_eq_true rfl⟩ ⟨Nat.zero_le _, Nat.zero_le _⟩ hw rfl rfl (Nat.le_of_ble_eq_true rfl) dX6_fills_34 (fun H locs hw => ?_)
  have hw : zHw x A s.heap (zMW x a q g nu (zflat (zU S 0 2 ((S 0 2) - (zPs S h how))))) H locs := hw
  refine zias2 (f' := zflat (zU (zU S 0 2 ((S 0 2) - (zPs S h how))) 0 6 (zHt (((zU S 0 2 ((S 0 2) - (zPs S h how))) 0 6) + (zPs S h how)) 9999999))) hx hb hK hw 1 0 6 rfl rfl rfl (by decide) (by decide) dX6_fills_37 (zflat_usc (zU S 0 2 ((S 0 2) - (zPs S h how))) _ (by decide)) (fun H locs hw => ?_)
  have hw : zHw x A s.heap (zMW x a q g nu (zflat (zU (zU S 0 2 ((S 0 2) - (zPs S h how))) 0 6 (zHt (((zU S 0 2 ((S 0 2) - (zPs S h how))) 0 6) + (zPs S h how)) 9999999)))) H locs := hw
  refine lv_aload_n hx hb dX6_fills_38 rfl (lv_at hl 1 rfl) ?_
  refine gfX6_7 hx hb hown hts hK hw 0 rfl rfl dX6_fills_39 ?_
  refine lv_iload_n hx hb dX6_fills_42 rfl (lv_at hl 2 rfl) ?_
  refine lv_iconst (v := 3) hx hb dX6_fills_43 (by decide) ?_
  refine zcSwi (r := nI (19 + 6 * h + 3)) hx hb hml hown hts hl.1 hK hE hA lkX6_52 (c_X6_spotOf x (zMW x a q g nu (zflat (zU (zU S 0 2 ((S 0 2) - (zPs S h how))) 0 6 (zHt (((zU S 0 2 ((S 0 2) - (zPs S h how))) 0 6) + (zPs S h how)) 9999999)))) h 3) ⟨Nat.le_of_ble_eq_true rfl, Nat.le_of_ble_eq_true rfl⟩ ⟨Nat.zero_le _, Nat.zero_le _⟩ hw rfl rfl (Nat.le_of_ble_eq_true rfl) dX6_fills_44 (fun H locs hw => ?_)
  have hw : zHw x A s.heap (zMW x a q g nu (zflat (zU (zU S 0 2 ((S 0 2) - (zPs S h how))) 0 6 (zHt (((zU S 0 2 ((S 0 2) - (zPs S h how))) 0 6) + (zPs S h how)) 9999999)))) H locs := hw
  refine lv_iconst (v := 1) hx hb dX6_fills_47 (by decide) ?_
  refine lv_iload_n hx hb dX6_fills_48 rfl (lv_at hl 3 rfl) ?_
  refine lv_iadd hx hb dX6_fills_49 ?_
  refine zias2 (f' := zflat (zU (zU (zU S 0 2 ((S 0 2) - (zPs S h how))) 0 6 (zHt (((zU S 0 2 ((S 0 2) - (zPs S h how))) 0 6) + (zPs S h how)) 9999999)) 6 h (1 + how))) hx hb hK hw 1 0 (19 + 6 * h + 3) rfl rfl rfl (by omega) (by decide) dX6_fills_50 (zflat_uit (zU (zU S 0 2 ((S 0 2) - (zPs S h how))) 0 6 (zHt (((zU S 0 2 ((S 0 2) - (zPs S h how))) 0 6) + (zPs S h how)) 9999999)) _ (by omega)) (fun H locs hw => ?_)
  have hw : zHw x A s.heap (zMW x a q g nu (zflat (zU (zU (zU S 0 2 ((S 0 2) - (zPs S h how))) 0 6 (zHt (((zU S 0 2 ((S 0 2) - (zPs S h how))) 0 6) + (zPs S h how)) 9999999)) 6 h (1 + how)))) H locs := hw
  refine lv_aload_n hx hb dX6_fills_51 rfl (lv_at hl 1 rfl) ?_
  refine gfX6_7 hx hb hown hts hK hw 0 rfl rfl dX6_fills_52 ?_
  refine lv_iload_n hx hb dX6_fills_55 rfl (lv_at hl 2 rfl) ?_
  refine lv_iconst (v := 4) hx hb dX6_fills_56 (by decide) ?_
  refine zcSwi (r := nI (19 + 6 * h + 4)) hx hb hml hown hts hl.1 hK hE hA lkX6_52 (c_X6_spotOf x (zMW x a q g nu (zflat (zU (zU (zU S 0 2 ((S 0 2) - (zPs S h how))) 0 6 (zHt (((zU S 0 2 ((S 0 2) - (zPs S h how))) 0 6) + (zPs S h how)) 9999999)) 6 h (1 + how)))) h 4) ⟨Nat.le_of_ble_eq_true rfl, Nat.le_of_ble_eq_true rfl⟩ ⟨Nat.zero_le _, Nat.zero_le _⟩ hw rfl rfl (Nat.le_of_ble_eq_true rfl) dX6_fills_57 (fun H locs hw => ?_)
  have hw : zHw x A s.heap (zMW x a q g nu (zflat (zU (zU (zU S 0 2 ((S 0 2) - (zPs S h how))) 0 6 (zHt (((zU S 0 2 ((S 0 2) - (zPs S h how))) 0 6) + (zPs S h how)) 9999999)) 6 h (1 + how)))) H locs := hw
  refine lv_iconst (v := 0) hx hb dX6_fills_60 (by decide) ?_
  refine zias2 (f' := zflat (zU (zU (zU (zU S 0 2 ((S 0 2) - (zPs S h how))) 0 6 (zHt (((zU S 0 2 ((S 0 2) - (zPs S h how))) 0 6) + (zPs S h how)) 9999999)) 6 h (1 + how)) 7 h 0)) hx hb hK hw 1 0 (19 + 6 * h + 4) rfl rfl rfl (by omega) (by decide) dX6_fills_61 (zflat_uit (zU (zU (zU S 0 2 ((S 0 2) - (zPs S h how))) 0 6 (zHt (((zU S 0 2 ((S 0 2) - (zPs S h how))) 0 6) + (zPs S h how)) 9999999)) 6 h (1 + how)) _ (by omega)) (fun H locs hw => ?_)
  have hw : zHw x A s.heap (zMW x a q g nu (zflat (zU (zU (zU (zU S 0 2 ((S 0 2) - (zPs S h how))) 0 6 (zHt (((zU S 0 2 ((S 0 2) - (zPs S h how))) 0 6) + (zPs S h how)) 9999999)) 6 h (1 + how)) 7 h 0))) H locs := hw
  refine lv_aload_n hx hb dX6_fills_62 rfl (lv_at hl 1 rfl) ?_
  refine gfX6_7 hx hb hown hts hK hw 0 rfl rfl dX6_fills_63 ?_
  refine lv_iload_n hx hb dX6_fills_66 rfl (lv_at hl 2 rfl) ?_
  refine lv_iconst (v := 5) hx hb dX6_fills_67 (by decide) ?_
  refine zcSwi (r := nI (19 + 6 * h + 5)) hx hb hml hown hts hl.1 hK hE hA lkX6_52 (c_X6_spotOf x (zMW x a q g nu (zflat (zU (zU (zU (zU S 0 2 ((S 0 2) - (zPs S h how))) 0 6 (zHt (((zU S 0 2 ((S 0 2) - (zPs S h how))) 0 6) + (zPs S h how)) 9999999)) 6 h (1 + how)) 7 h 0))) h 5) ⟨Nat.le_of_ble_eq_true rfl, Nat.le_of_ble_eq_true rfl⟩ ⟨Nat.zero_le _, Nat.zero_le _⟩ hw rfl rfl (Nat.le_of_ble_eq_true rfl) dX6_fills_68 (fun H locs hw => ?_)
  have hw : zHw x A s.heap (zMW x a q g nu (zflat (zU (zU (zU (zU S 0 2 ((S 0 2) - (zPs S h how))) 0 6 (zHt (((zU S 0 2 ((S 0 2) - (zPs S h how))) 0 6) + (zPs S h how)) 9999999)) 6 h (1 + how)) 7 h 0))) H locs := hw
  refine lv_iconst (v := 0) hx hb dX6_fills_71 (by decide) ?_
  refine zias2 (f' := zflat (zU (zU (zU (zU (zU S 0 2 ((S 0 2) - (zPs S h how))) 0 6 (zHt (((zU S 0 2 ((S 0 2) - (zPs S h how))) 0 6) + (zPs S h how)) 9999999)) 6 h (1 + how)) 7 h 0) 8 h 0)) hx hb hK hw 1 0 (19 + 6 * h + 5) rfl rfl rfl (by omega) (by decide) dX6_fills_72 (zflat_uit (zU (zU (zU (zU S 0 2 ((S 0 2) - (zPs S h how))) 0 6 (zHt (((zU S 0 2 ((S 0 2) - (zPs S h how))) 0 6) + (zPs S h how)) 9999999)) 6 h (1 + how)) 7 h 0) _ (by omega)) (fun H locs hw => ?_)
  have hw : zHw x A s.heap (zMW x a q g nu (zflat (zU (zU (zU (zU (zU S 0 2 ((S 0 2) - (zPs S h how))) 0 6 (zHt (((zU S 0 2 ((S 0 2) - (zPs S h how))) 0 6) + (zPs S h how)) 9999999)) 6 h (1 + how)) 7 h 0) 8 h 0))) H locs := hw
  refine lv_iload_n hx hb dX6_fills_73 rfl (lv_at hl 0 rfl) ?_
  exact zFG.iret hx hb hr hlocks hQ hw rfl dX6_fills_74 ⟨rfl, congrArg (fun z => zMW x a q g nu (zflat z)) (by unfold zFi; rcases hw1 with rfl | rfl <;> rfl)⟩
