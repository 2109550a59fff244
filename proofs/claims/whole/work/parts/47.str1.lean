set_option maxHeartbeats 4000000 in
set_option maxRecDepth 100000 in
theorem c_J0_coder_7d493 (x : zX) (w : va_W) (i : Nat) (hi : i < 16) : zFF x mJ0_coder_7d493 0 [.ref (x.2.1.1 i)] (w) (some (.int 0)) (w) := by
  refine zFG.start RJ0 cJ0_coder_7d493 1 (some .byte) rfl rfl (by decide +kernel) (Nat.le_of_ble_eq_true rfl) ?_
  intro p e s m ar below meth c ls A Q hx hb hr hml hown hts hlocks hK hE hA hQ hl hw
  have hl : lv_has ls 1 [(0, .ref (x.2.1.1 i))] := hl
  have hw : zHw x A s.heap (w) s.heap [] := hw
  refine zgcs hx hb hE hw hown hts dJ0_coder_7d493_0 ?_
  refine lv_if_eq (tgt := 13) hx hb dJ0_coder_7d493_3 (by decide) (fun c3 => absurd c3 (by decide)) (fun c3 => ?_)
  refine lv_aload_n hx hb dJ0_coder_7d493_6 rfl (lv_at hl 0 rfl) ?_
  refine zsgc hx hb hE hw hown hts i hi dJ0_coder_7d493_7 ?_
  refine lv_goto (tgt := 14) hx hb dJ0_coder_7d493_10 (by decide) ?_
  exact zFG.nret hx hb hr hlocks hQ hw rfl dJ0_coder_7d493_14 (by decide) ⟨rfl, rfl⟩

set_option maxHeartbeats 4000000 in
set_option maxRecDepth 100000 in
theorem c_J0_isLatin1_aae02 (x : zX) (w : va_W) (i : Nat) (hi : i < 16) : zFF x mJ0_isLatin1_aae02 0 [.ref (x.2.1.1 i)] (w) (some (.int 1)) (w) := by
  refine zFG.start RJ0 cJ0_isLatin1_aae02 1 (some .boolean) rfl rfl (by decide +kernel) (Nat.le_of_ble_eq_true rfl) ?_
  intro p e s m ar below meth c ls A Q hx hb hr hml hown hts hlocks hK hE hA hQ hl hw
  have hl : lv_has ls 1 [(0, .ref (x.2.1.1 i))] := hl
  have hw : zHw x A s.heap (w) s.heap [] := hw
  refine zgcs hx hb hE hw hown hts dJ0_isLatin1_aae02_0 ?_
  refine lv_if_eq (tgt := 17) hx hb dJ0_isLatin1_aae02_3 (by decide) (fun c3 => absurd c3 (by decide)) (fun c3 => ?_)
  refine lv_aload_n hx hb dJ0_isLatin1_aae02_6 rfl (lv_at hl 0 rfl) ?_
  refine zsgc hx hb hE hw hown hts i hi dJ0_isLatin1_aae02_7 ?_
  refine lv_if_ne (tgt := 17) hx hb dJ0_isLatin1_aae02_10 (by decide) (fun c10 => absurd c10 (by decide)) (fun c10 => ?_)
  refine lv_iconst (v := 1) hx hb dJ0_isLatin1_aae02_13 (by decide) ?_
  refine lv_goto (tgt := 18) hx hb dJ0_isLatin1_aae02_14 (by decide) ?_
  exact zFG.zret hx hb hr hlocks hQ hw rfl dJ0_isLatin1_aae02_18 (by decide) ⟨rfl, rfl⟩

set_option maxHeartbeats 4000000 in
set_option maxRecDepth 100000 in
theorem c_J0_length_8abf5 (x : zX) (w : va_W) (i : Nat) (hi : i < 16) : zFF x mJ0_length_8abf5 1 [.ref (x.2.1.1 i)] (w) (some (.int (nI (zNm i).length))) (w) := by
  refine zFG.start RJ0 cJ0_length_8abf5 1 (some .int) rfl rfl (by decide +kernel) (Nat.le_of_ble_eq_true rfl) ?_
  intro p e s m ar below meth c ls A Q hx hb hr hml hown hts hlocks hK hE hA hQ hl hw
  have hl : lv_has ls 1 [(0, .ref (x.2.1.1 i))] := hl
  have hw : zHw x A s.heap (w) s.heap [] := hw
  refine lv_aload_n hx hb dJ0_length_8abf5_0 rfl (lv_at hl 0 rfl) ?_
  refine zsgv hx hb hE hw hown hts i hi dJ0_length_8abf5_1 ?_
  refine zsln hx hb hE hw i hi dJ0_length_8abf5_4 ?_
  refine lv_aload_n hx hb dJ0_length_8abf5_5 rfl (lv_at hl 0 rfl) ?_
  refine zcVsi (r := 0) hx hb hml hown hts hl.1 hK hE hA lkJ0_335 (c_J0_coder_7d493 x (w) i hi ) ⟨Nat.le_of_ble_eq_true rfl, Nat.le_of_ble_eq_true rfl⟩ ⟨Nat.zero_le _, Nat.zero_le _⟩ hw i hi rfl rfl rfl rfl (Nat.le_of_ble_eq_true rfl) dJ0_length_8abf5_6 (fun H locs hw => ?_)
  have hw : zHw x A s.heap (w) H locs := hw
  refine lv_ishr hx hb dJ0_length_8abf5_9 ?_
  exact zFG.iret hx hb hr hlocks hQ hw rfl dJ0_length_8abf5_10 ⟨zsi (by obtain ⟨h1, h2⟩ := zSn_ok i hi; rw [h1]; exact sc_shr0 (by omega)), rfl⟩

set_option maxHeartbeats 4000000 in
set_option maxRecDepth 100000 in
theorem c_J3_checkIndex_8e157 (x : zX) (w : va_W) (k n : Nat) (hk : k < n) (hn : n < 100) (rf : Nat) : zFF x mJ3_checkIndex_8e157 0 [.int (nI k), .int (nI n), .ref rf] (w) (some (.int (nI k))) (w) := by
  refine zFG.start RJ3 cJ3_checkIndex_8e157 3 (some .int) rfl rfl (by decide +kernel) (Nat.le_of_ble_eq_true rfl) ?_
  intro p e s m ar below meth c ls A Q hx hb hr hml hown hts hlocks hK hE hA hQ hl hw
  have hl : lv_has ls 3 [(0, .int (nI k)), (1, .int (nI n)), (2, .ref rf)] := hl
  have hw : zHw x A s.heap (w) s.heap [] := hw
  refine lv_iload_n hx hb dJ3_checkIndex_8e157_0 rfl (lv_at hl 0 rfl) ?_
  refine lv_if_lt (tgt := 9) hx hb dJ3_checkIndex_8e157_1 (by decide) (fun c1 => absurd c1 (nI_pos (by omega))) (fun c1 => ?_)
  refine lv_iload_n hx hb dJ3_checkIndex_8e157_4 rfl (lv_at hl 0 rfl) ?_
  refine lv_iload_n hx hb dJ3_checkIndex_8e157_5 rfl (lv_at hl 1 rfl) ?_
  refine lv_icmp_lt (tgt := 16) hx hb dJ3_checkIndex_8e157_6 (by decide) (fun c6 => ?_) (fun c6 => absurd (nI_lt hk (by omega)) c6)
  refine lv_iload_n hx hb dJ3_checkIndex_8e157_16 rfl (lv_at hl 0 rfl) ?_
  exact zFG.iret hx hb hr hlocks hQ hw rfl dJ3_checkIndex_8e157_17 ⟨rfl, rfl⟩

set_option maxHeartbeats 4000000 in
set_option maxRecDepth 100000 in
theorem c_J3_checkIndex_N (x : zX) (w : va_W) (k n : Nat) (hk : k < n) (hn : n < 100) : zFF x mJ3_checkIndex_8e157 0 [.int (nI k), .int (nI n), Value.null] (w) (some (.int (nI k))) (w) := by
  refine zFG.start RJ3 cJ3_checkIndex_8e157 3 (some .int) rfl rfl (by decide +kernel) (Nat.le_of_ble_eq_true rfl) ?_
  intro p e s m ar below meth c ls A Q hx hb hr hml hown hts hlocks hK hE hA hQ hl hw
  have hl : lv_has ls 3 [(0, .int (nI k)), (1, .int (nI n)), (2, Value.null)] := hl
  have hw : zHw x A s.heap (w) s.heap [] := hw
  refine lv_iload_n hx hb dJ3_checkIndex_8e157_0 rfl (lv_at hl 0 rfl) ?_
  refine lv_if_lt (tgt := 9) hx hb dJ3_checkIndex_8e157_1 (by decide) (fun c1 => absurd c1 (nI_pos (by omega))) (fun c1 => ?_)
  refine lv_iload_n hx hb dJ3_checkIndex_8e157_4 rfl (lv_at hl 0 rfl) ?_
  refine lv_iload_n hx hb dJ3_checkIndex_8e157_5 rfl (lv_at hl 1 rfl) ?_
  refine lv_icmp_lt (tgt := 16) hx hb dJ3_checkIndex_8e157_6 (by decide) (fun c6 => ?_) (fun c6 => absurd (nI_lt hk (by omega)) c6)
  refine lv_iload_n hx hb dJ3_checkIndex_8e157_16 rfl (lv_at hl 0 rfl) ?_
  exact zFG.iret hx hb hr hlocks hQ hw rfl dJ3_checkIndex_8e157_17 ⟨rfl, rfl⟩

set_option maxHeartbeats 4000000 in
set_option maxRecDepth 100000 in
theorem c_J0_checkIndex_df160 (x : zX) (w : va_W) (k n : Nat) (hk : k < n) (hn : n < 100) : zFF x mJ0_checkIndex_df160 1 [.int (nI k), .int (nI n)] (w) none (w) := by
  refine zFG.start RJ0 cJ0_checkIndex_df160 2 none rfl rfl (by decide +kernel) (Nat.le_of_ble_eq_true rfl) ?_
  intro p e s m ar below meth c ls A Q hx hb hr hml hown hts hlocks hK hE hA hQ hl hw
  have hl : lv_has ls 2 [(0, .int (nI k)), (1, .int (nI n))] := hl
  have hw : zHw x A s.heap (w) s.heap [] := hw
  refine lv_iload_n hx hb dJ0_checkIndex_df160_0 rfl (lv_at hl 0 rfl) ?_
  refine lv_iload_n hx hb dJ0_checkIndex_df160_1 rfl (lv_at hl 1 rfl) ?_
  refine zgsf hx hb hE hw hown hts dJ0_checkIndex_df160_2 ?_ (fun rf => ?_)
  · refine zcSwi (r := nI k) hx hb hml hown hts hl.1 hK hE hA lkJ0_1059 (c_J3_checkIndex_N x (w) k n hk hn) ⟨Nat.le_of_ble_eq_true rfl, Nat.le_of_ble_eq_true rfl⟩ ⟨Nat.zero_le _, Nat.zero_le _⟩ hw rfl rfl (Nat.le_of_ble_eq_true rfl) dJ0_checkIndex_df160_5 (fun H locs hw => ?_)
    have hw : zHw x A s.heap (w) H locs := hw
    refine lv_pop hx hb dJ0_checkIndex_df160_8 rfl ?_
    exact zFG.vret hx hb hr hlocks hQ hw rfl dJ0_checkIndex_df160_9 ⟨rfl, rfl⟩
  · refine zcSwi (r := nI k) hx hb hml hown hts hl.1 hK hE hA lkJ0_1059 (c_J3_checkIndex_8e157 x (w) k n hk hn rf) ⟨Nat.le_of_ble_eq_true rfl, Nat.le_of_ble_eq_true rfl⟩ ⟨Nat.zero_le _, Nat.zero_le _⟩ hw rfl rfl (Nat.le_of_ble_eq_true rfl) dJ0_checkIndex_df160_5 (fun H locs hw => ?_)
    have hw : zHw x A s.heap (w) H locs := hw
    refine lv_pop hx hb dJ0_checkIndex_df160_8 rfl ?_
    exact zFG.vret hx hb hr hlocks hQ hw rfl dJ0_checkIndex_df160_9 ⟨rfl, rfl⟩

set_option maxHeartbeats 4000000 in
set_option maxRecDepth 100000 in
theorem c_J1_charAt_3b067 (x : zX) (w : va_W) (i k : Nat) (hi : i < 16) (hk : k < (zNm i).length) : zFF x mJ1_charAt_3b067 2 [.ref (x.2.1.2.1 i), .int (nI k)] (w) (some (.int (zch i k))) (w) := by
  obtain ⟨h1, h2⟩ := zSn_ok i hi
  have hk2 : k < zSn.getD i 0 := by omega
  refine zFG.start RJ1 cJ1_charAt_3b067 2 (some .char) rfl rfl (by decide +kernel) (Nat.le_of_ble_eq_true rfl) ?_
  intro p e s m ar below meth c ls A Q hx hb hr hml hown hts hlocks hK hE hA hQ hl hw
  have hl : lv_has ls 2 [(0, .ref (x.2.1.2.1 i)), (1, .int (nI k))] := hl
  have hw : zHw x A s.heap (w) s.heap [] := hw
  refine lv_iload_n hx hb dJ1_charAt_3b067_0 rfl (lv_at hl 1 rfl) ?_
  refine lv_aload_n hx hb dJ1_charAt_3b067_1 rfl (lv_at hl 0 rfl) ?_
  refine zsln hx hb hE hw i hi dJ1_charAt_3b067_2 ?_
  refine zcSwv hx hb hml hown hts hl.1 hK hE hA lkJ1_9 (c_J0_checkIndex_df160 x (w) k (zSn.getD i 0) hk2 (by omega)) ⟨Nat.le_of_ble_eq_true rfl, Nat.le_of_ble_eq_true rfl⟩ ⟨Nat.zero_le _, Nat.zero_le _⟩ hw rfl rfl (Nat.le_of_ble_eq_true rfl) dJ1_charAt_3b067_3 (fun H locs hw => ?_)
  have hw : zHw x A s.heap (w) H locs := hw
  refine lv_aload_n hx hb dJ1_charAt_3b067_6 rfl (lv_at hl 0 rfl) ?_
  refine lv_iload_n hx hb dJ1_charAt_3b067_7 rfl (lv_at hl 1 rfl) ?_
  refine zsba hx hb hE hw i k hi hk2 (by omega) dJ1_charAt_3b067_8 ?_
  refine lv_sipush (v := 255) hx hb dJ1_charAt_3b067_9 (by decide) ?_
  refine lv_iand hx hb dJ1_charAt_3b067_12 ?_
  refine lv_i2c hx hb dJ1_charAt_3b067_13 rfl ?_
  refine W.eq (g2 := F0 m 14 ls [.int (zch i k)]) (by rw [zch_ok i hi k (by omega)]) ?_
  exact zFG.nret hx hb hr hlocks hQ hw rfl dJ1_charAt_3b067_14 (zch_n hi (by omega)) ⟨rfl, rfl⟩

set_option maxHeartbeats 4000000 in
set_option maxRecDepth 100000 in
theorem c_J0_charAt_5068e (x : zX) (w : va_W) (i : Nat) (hi : i < 16) (k : Nat) (hk : k < (zNm i).length) : zFF x mJ0_charAt_5068e 3 [.ref (x.2.1.1 i), .int (nI k)] (w) (some (.int (zch i k))) (w) := by
  refine zFG.start RJ0 cJ0_charAt_5068e 2 (some .char) rfl rfl (by decide +kernel) (Nat.le_of_ble_eq_true rfl) ?_
  intro p e s m ar below meth c ls A Q hx hb hr hml hown hts hlocks hK hE hA hQ hl hw
  have hl : lv_has ls 2 [(0, .ref (x.2.1.1 i)), (1, .int (nI k))] := hl
  have hw : zHw x A s.heap (w) s.heap [] := hw
  refine lv_aload_n hx hb dJ0_charAt_5068e_0 rfl (lv_at hl 0 rfl) ?_
  refine zcVsi (r := 1) hx hb hml hown hts hl.1 hK hE hA lkJ0_492 (c_J0_isLatin1_aae02 x (w) i hi ) ⟨Nat.le_of_ble_eq_true rfl, Nat.le_of_ble_eq_true rfl⟩ ⟨Nat.zero_le _, Nat.zero_le _⟩ hw i hi rfl rfl rfl rfl (Nat.le_of_ble_eq_true rfl) dJ0_charAt_5068e_1 (fun H locs hw => ?_)
  have hw : zHw x A s.heap (w) H locs := hw
  refine lv_if_eq (tgt := 16) hx hb dJ0_charAt_5068e_4 (by decide) (fun c4 => absurd c4 (by decide)) (fun c4 => ?_)
  refine lv_aload_n hx hb dJ0_charAt_5068e_7 rfl (lv_at hl 0 rfl) ?_
  refine zsgv hx hb hE hw hown hts i hi dJ0_charAt_5068e_8 ?_
  refine lv_iload_n hx hb dJ0_charAt_5068e_11 rfl (lv_at hl 1 rfl) ?_
  refine zcSwi (r := zch i k) hx hb hml hown hts hl.1 hK hE hA lkJ0_495 (c_J1_charAt_3b067 x (w) i k hi hk) ⟨Nat.le_of_ble_eq_true rfl, Nat.le_of_ble_eq_true rfl⟩ ⟨Nat.zero_le _, Nat.zero_le _⟩ hw rfl rfl (Nat.le_of_ble_eq_true rfl) dJ0_charAt_5068e_12 (fun H locs hw => ?_)
  have hw : zHw x A s.heap (w) H locs := hw
  exact zFG.nret hx hb hr hlocks hQ hw rfl dJ0_charAt_5068e_15 (zch_n hi (by have := (zSn_ok i hi).2; omega)) ⟨rfl, rfl⟩

set_option maxHeartbeats 4000000 in
set_option maxRecDepth 100000 in
theorem c_X2_isAt (x : zX) (b : Nat → Nat) (tb : Nat → Int32) (n y : Nat) (v : Int32) (hn : n ≤ 120) (hy : y ≤ n) (i : Nat) (hi : i < 16) : zFF x mX2_isAt 4 [.ref (b 1), .ref (x.2.1.1 i)] (zPW x b tb (zTp tb n y v)) (some (.int (zb (zIs tb n y (zNm i))))) (zPW x b tb (zTp tb n y v)) := by
  have hye := zEn_ge tb n y
  have hen := zEn_le (B := tb) hy
  have hl7 := (zSn_ok i hi).2
  refine zFG.start RX2 cX2_isAt 3 (some .boolean) rfl rfl (by decide +kernel) (Nat.le_of_ble_eq_true rfl) ?_
  intro p e s m ar below meth c ls A Q hx hb hr hml hown hts hlocks hK hE hA hQ hl hw
  have hl : lv_has ls 3 [(0, .ref (b 1)), (1, .ref (x.2.1.1 i))] := hl
  have hw : zHw x A s.heap (zPW x b tb (zTp tb n y v)) s.heap [] := hw
  refine lv_aload_n hx hb dX2_isAt_0 rfl (lv_at hl 0 rfl) ?_
  refine gfX2_19 hx hb hown hts hK hw 0 rfl rfl dX2_isAt_1 ?_
  refine W.eq (g2 := F0 m 4 ls [.int (zTk tb n y)]) (by rfl) ?_
  refine lv_iconst (v := 1) hx hb dX2_isAt_4 (by decide) ?_
  refine lv_icmp_ne (tgt := 24) hx hb dX2_isAt_5 (by decide) (fun c5 => ?_) (fun c5 => ?_)
  · refine lv_iconst (v := 0) hx hb dX2_isAt_24 (by decide) ?_
    exact zFG.zret hx hb hr hlocks hQ hw rfl dX2_isAt_25 (by decide) ⟨zsi (zb_f (fun h => c5 (zTk_L h.1))).symm, rfl⟩
  · have hL : zLt tb n y := zTk_is1.mp c5
    refine lv_aload_n hx hb dX2_isAt_8 rfl (lv_at hl 0 rfl) ?_
    refine gfX2_25 hx hb hown hts hK hw 0 rfl rfl dX2_isAt_9 ?_
    refine lv_aload_n hx hb dX2_isAt_12 rfl (lv_at hl 0 rfl) ?_
    refine gfX2_22 hx hb hown hts hK hw 0 rfl rfl dX2_isAt_13 ?_
    refine W.eq (g2 := F0 m 16 ls [.int (nI y), .int ((zTp tb n y v) 3)]) (by rfl) ?_
    refine W.eq (g2 := F0 m 16 ls [.int (nI y), .int (nI (zEn tb n y))]) (by rfl) ?_
    refine lv_isub hx hb dX2_isAt_16 ?_
    refine W.eq (g2 := F0 m 17 ls [.int (nI (zEn tb n y - y))]) (by rw [pk_sub hye]) ?_
    refine lv_aload_n hx hb dX2_isAt_17 rfl (lv_at hl 1 rfl) ?_
    refine zcVsi (r := nI (zNm i).length) hx hb hml hown hts hl.1 hK hE hA lkX2_42 (c_J0_length_8abf5 x (zPW x b tb (zTp tb n y v)) i hi ) ⟨Nat.le_of_ble_eq_true rfl, Nat.le_of_ble_eq_true rfl⟩ ⟨Nat.zero_le _, Nat.zero_le _⟩ hw i hi rfl rfl rfl rfl (Nat.le_of_ble_eq_true rfl) dX2_isAt_18 (fun H locs hw => ?_)
    have hw : zHw x A s.heap (zPW x b tb (zTp tb n y v)) H locs := hw
    refine lv_icmp_eq (tgt := 26) hx hb dX2_isAt_21 (by decide) (fun c21 => ?_) (fun c21 => ?_)
    · have he : zEn tb n y - y = (zNm i).length := (nI_eq (by omega) (by omega)).mp c21
      refine lv_iconst (v := 0) hx hb dX2_isAt_26 (by decide) ?_
      refine lv_istore_n (lv' := [(2, .int 0), (0, .ref (b 1)), (1, .ref (x.2.1.1 i))]) hx hb dX2_isAt_27 rfl hl (by decide) rfl (fun ls hl => ?_)
      have loop28 : ∀ (dd : Nat) (k : Nat), (zNm i).length - k < dd → (hkl : k ≤ (zNm i).length) → (hk0 : ∀ j, j < k → tb (y + j) = (zNm i).getD j 0) → ∀ (H : Heap) (locs : List Loc) (ls : Array Slot), zHw x A s.heap (zPW x b tb (zTp tb n y v)) H locs → lv_has ls 3 [(0, .ref (b 1)), (1, .ref (x.2.1.1 i)), (2, .int (nI k))] → W p x.1 e (zRM 4) s m ar below meth c H locs 0 0 Q (F0 m 28 ls []) := by
        intro dd
        induction dd with
        | zero => intro k hm; exact absurd hm (Nat.not_lt_zero _)
        | succ dd ih28 =>
          intro k hm hkl hk0 H locs ls hw hl
          refine lv_iload_n hx hb dX2_isAt_28 rfl (lv_at hl 2 rfl) ?_
          refine lv_aload_n hx hb dX2_isAt_29 rfl (lv_at hl 1 rfl) ?_
          refine zcVsi (r := nI (zNm i).length) hx hb hml hown hts hl.1 hK hE hA lkX2_42 (c_J0_length_8abf5 x (zPW x b tb (zTp tb n y v)) i hi ) ⟨Nat.le_of_ble_eq_true rfl, Nat.le_of_ble_eq_true rfl⟩ ⟨Nat.zero_le _, Nat.zero_le _⟩ hw i hi rfl rfl rfl rfl (Nat.le_of_ble_eq_true rfl) dX2_isAt_30 (fun H locs hw => ?_)
          have hw : zHw x A s.heap (zPW x b tb (zTp tb n y v)) H locs := hw
          refine lv_icmp_ge (tgt := 63) hx hb dX2_isAt_33 (by decide) (fun c33 => ?_) (fun c33 => ?_)
          · refine lv_iconst (v := 1) hx hb dX2_isAt_63 (by decide) ?_
            exact zFG.zret hx hb hr hlocks hQ hw rfl dX2_isAt_64 (by decide) ⟨zsi (zb_t (show zIs tb n y (zNm i) from ⟨hL, by omega, fun j hj => hk0 j (by have := Nat.le_of_not_lt (fun h => absurd c33 (nI_ge h (by omega))); omega)⟩)).symm, rfl⟩
          · have hk : k < (zNm i).length := Nat.lt_of_not_le (fun h => c33 (nI_le h (by omega)))
            refine lv_aload_n hx hb dX2_isAt_36 rfl (lv_at hl 0 rfl) ?_
            refine gfX2_9 hx hb hown hts hK hw 0 rfl rfl dX2_isAt_37 ?_
            refine lv_aload_n hx hb dX2_isAt_40 rfl (lv_at hl 0 rfl) ?_
            refine gfX2_22 hx hb hown hts hK hw 0 rfl rfl dX2_isAt_41 ?_
            refine W.eq (g2 := F0 m 44 ls [.int (nI y), .ref (b 2)]) (by rfl) ?_
            refine lv_iload_n hx hb dX2_isAt_44 rfl (lv_at hl 2 rfl) ?_
            refine lv_iadd hx hb dX2_isAt_45 ?_
            refine W.eq (g2 := F0 m 46 ls [.int (nI (y + k)), .ref (b 2)]) (by rw [nI_add]) ?_
            refine zial hx hb hK hw 1 0 (y + k) rfl rfl rfl (by omega) (by decide) dX2_isAt_46 ?_
            refine lv_aload_n hx hb dX2_isAt_47 rfl (lv_at hl 1 rfl) ?_
            refine lv_iload_n hx hb dX2_isAt_48 rfl (lv_at hl 2 rfl) ?_
            refine zcVsi (r := zch i k) hx hb hml hown hts hl.1 hK hE hA lkX2_46 (c_J0_charAt_5068e x (zPW x b tb (zTp tb n y v)) i hi k hk) ⟨Nat.le_of_ble_eq_true rfl, Nat.le_of_ble_eq_true rfl⟩ ⟨Nat.zero_le _, Nat.zero_le _⟩ hw i hi rfl rfl rfl rfl (Nat.le_of_ble_eq_true rfl) dX2_isAt_49 (fun H locs hw => ?_)
            have hw : zHw x A s.heap (zPW x b tb (zTp tb n y v)) H locs := hw
            refine lv_icmp_eq (tgt := 57) hx hb dX2_isAt_52 (by decide) (fun c52 => ?_) (fun c52 => ?_)
            · refine lv_iinc (v := nI (k + 1)) (lv' := [(2, .int (nI (k + 1))), (0, .ref (b 1)), (1, .ref (x.2.1.1 i))]) hx hb dX2_isAt_57 hl (k := 2) rfl (nI_1 k) (by decide) rfl (fun ls hl => ?_)
              refine lv_goto (tgt := 28) hx hb dX2_isAt_60 (by decide) ?_
              exact ih28 (k + 1) (by omega) (by omega) (fun j hj => by
                  by_cases e : j = k
                  · subst e; exact c52
                  · exact hk0 j (by omega)) _ _ _ hw (lv_sub hl [1, 2, 0] rfl)
            · refine lv_iconst (v := 0) hx hb dX2_isAt_55 (by decide) ?_
              exact zFG.zret hx hb hr hlocks hQ hw rfl dX2_isAt_56 (by decide) ⟨zsi (zb_f (fun h => c52 (h.2.2 k hk))).symm, rfl⟩
      exact loop28 (_ + 1) 0 (Nat.lt_succ_self _) (Nat.zero_le _) (fun j hj => absurd hj (Nat.not_lt_zero _)) _ _ _ hw (lv_sub hl [1, 2, 0] rfl)
    · refine lv_iconst (v := 0) hx hb dX2_isAt_24 (by decide) ?_
      exact zFG.zret hx hb hr hlocks hQ hw rfl dX2_isAt_25 (by decide) ⟨zsi (zb_f (fun h => c21 (congrArg nI (by have := h.2.1; omega)))).symm, rfl⟩

set_option maxHeartbeats 4000000 in
set_option maxRecDepth 100000 in
theorem c_X0_nameOf_0 (x : zX) (w : va_W) : zFF x mX0_nameOf 0 [.int 0] (w) (some (.ref (x.2.1.1 0))) (w) := by
  refine zFG.start RX0 cX0_nameOf 1 (some (.object "java/lang/String")) rfl rfl (by decide +kernel) (Nat.le_of_ble_eq_true rfl) ?_
  intro p e s m ar below meth c ls A Q hx hb hr hml hown hts hlocks hK hE hA hQ hl hw
  have hl : lv_has ls 1 [(0, .int 0)] := hl
  have hw : zHw x A s.heap (w) s.heap [] := hw
  refine lv_iload_n hx hb dX0_nameOf_0 rfl (lv_at hl 0 rfl) ?_
  refine lv_tableIn (off := 35) (tgt := 36) hx hb dX0_nameOf_1 (by decide) (by decide) (by decide) (by decide) ?_
  refine zldS hx hb hE hw hown 0 (by decide) rfl rfl dX0_nameOf_36 ?_
  exact zFG.aret hx hb hr (by first | exact Or.inl ⟨_, rfl⟩ | exact Or.inr ⟨_, rfl⟩) (by first | exact Or.inl rfl | exact Or.inr ⟨_, rfl⟩) hlocks hQ hw rfl dX0_nameOf_38 ⟨rfl, rfl⟩

set_option maxHeartbeats 4000000 in
set_option maxRecDepth 100000 in
theorem c_X0_nameOf_1 (x : zX) (w : va_W) : zFF x mX0_nameOf 0 [.int 1] (w) (some (.ref (x.2.1.1 1))) (w) := by
  refine zFG.start RX0 cX0_nameOf 1 (some (.object "java/lang/String")) rfl rfl (by decide +kernel) (Nat.le_of_ble_eq_true rfl) ?_
  intro p e s m ar below meth c ls A Q hx hb hr hml hown hts hlocks hK hE hA hQ hl hw
  have hl : lv_has ls 1 [(0, .int 1)] := hl
  have hw : zHw x A s.heap (w) s.heap [] := hw
  refine lv_iload_n hx hb dX0_nameOf_0 rfl (lv_at hl 0 rfl) ?_
  refine lv_tableIn (off := 38) (tgt := 39) hx hb dX0_nameOf_1 (by decide) (by decide) (by decide) (by decide) ?_
  refine zldS hx hb hE hw hown 1 (by decide) rfl rfl dX0_nameOf_39 ?_
  exact zFG.aret hx hb hr (by first | exact Or.inl ⟨_, rfl⟩ | exact Or.inr ⟨_, rfl⟩) (by first | exact Or.inl rfl | exact Or.inr ⟨_, rfl⟩) hlocks hQ hw rfl dX0_nameOf_41 ⟨rfl, rfl⟩

set_option maxHeartbeats 4000000 in
set_option maxRecDepth 100000 in
theorem c_X0_nameOf_2 (x : zX) (w : va_W) : zFF x mX0_nameOf 0 [.int 2] (w) (some (.ref (x.2.1.1 2))) (w) := by
  refine zFG.start RX0 cX0_nameOf 1 (some (.object "java/lang/String")) rfl rfl (by decide +kernel) (Nat.le_of_ble_eq_true rfl) ?_
  intro p e s m ar below meth c ls A Q hx hb hr hml hown hts hlocks hK hE hA hQ hl hw
  have hl : lv_has ls 1 [(0, .int 2)] := hl
  have hw : zHw x A s.heap (w) s.heap [] := hw
  refine lv_iload_n hx hb dX0_nameOf_0 rfl (lv_at hl 0 rfl) ?_
  refine lv_tableIn (off := 41) (tgt := 42) hx hb dX0_nameOf_1 (by decide) (by decide) (by decide) (by decide) ?_
  refine zldS hx hb hE hw hown 2 (by decide) rfl rfl dX0_nameOf_42 ?_
  exact zFG.aret hx hb hr (by first | exact Or.inl ⟨_, rfl⟩ | exact Or.inr ⟨_, rfl⟩) (by first | exact Or.inl rfl | exact Or.inr ⟨_, rfl⟩) hlocks hQ hw rfl dX0_nameOf_44 ⟨rfl, rfl⟩

set_option maxHeartbeats 4000000 in
set_option maxRecDepth 100000 in
theorem c_X0_nameOf_3 (x : zX) (w : va_W) : zFF x mX0_nameOf 0 [.int 3] (w) (some (.ref (x.2.1.1 3))) (w) := by
  refine zFG.start RX0 cX0_nameOf 1 (some (.object "java/lang/String")) rfl rfl (by decide +kernel) (Nat.le_of_ble_eq_true rfl) ?_
  intro p e s m ar below meth c ls A Q hx hb hr hml hown hts hlocks hK hE hA hQ hl hw
  have hl : lv_has ls 1 [(0, .int 3)] := hl
  have hw : zHw x A s.heap (w) s.heap [] := hw
  refine lv_iload_n hx hb dX0_nameOf_0 rfl (lv_at hl 0 rfl) ?_
  refine lv_tableIn (off := 44) (tgt := 45) hx hb dX0_nameOf_1 (by decide) (by decide) (by decide) (by decide) ?_
  refine zldS hx hb hE hw hown 3 (by decide) rfl rfl dX0_nameOf_45 ?_
  exact zFG.aret hx hb hr (by first | exact Or.inl ⟨_, rfl⟩ | exact Or.inr ⟨_, rfl⟩) (by first | exact Or.inl rfl | exact Or.inr ⟨_, rfl⟩) hlocks hQ hw rfl dX0_nameOf_47 ⟨rfl, rfl⟩

set_option maxHeartbeats 4000000 in
set_option maxRecDepth 100000 in
theorem c_X0_nameOf_4 (x : zX) (w : va_W) : zFF x mX0_nameOf 0 [.int 4] (w) (some (.ref (x.2.1.1 4))) (w) := by
  refine zFG.start RX0 cX0_nameOf 1 (some (.object "java/lang/String")) rfl rfl (by decide +kernel) (Nat.le_of_ble_eq_true rfl) ?_
  intro p e s m ar below meth c ls A Q hx hb hr hml hown hts hlocks hK hE hA hQ hl hw
  have hl : lv_has ls 1 [(0, .int 4)] := hl
  have hw : zHw x A s.heap (w) s.heap [] := hw
  refine lv_iload_n hx hb dX0_nameOf_0 rfl (lv_at hl 0 rfl) ?_
  refine lv_tableIn (off := 47) (tgt := 48) hx hb dX0_nameOf_1 (by decide) (by decide) (by decide) (by decide) ?_
  refine zldS hx hb hE hw hown 4 (by decide) rfl rfl dX0_nameOf_48 ?_
  exact zFG.aret hx hb hr (by first | exact Or.inl ⟨_, rfl⟩ | exact Or.inr ⟨_, rfl⟩) (by first | exact Or.inl rfl | exact Or.inr ⟨_, rfl⟩) hlocks hQ hw rfl dX0_nameOf_50 ⟨rfl, rfl⟩

set_option maxHeartbeats 4000000 in
set_option maxRecDepth 100000 in
theorem c_X0_nameOf_5 (x : zX) (w : va_W) : zFF x mX0_nameOf 0 [.int 5] (w) (some (.ref (x.2.1.1 5))) (w) := by
  refine zFG.start RX0 cX0_nameOf 1 (some (.object "java/lang/String")) rfl rfl (by decide +kernel) (Nat.le_of_ble_eq_true rfl) ?_
  intro p e s m ar below meth c ls A Q hx hb hr hml hown hts hlocks hK hE hA hQ hl hw
  have hl : lv_has ls 1 [(0, .int 5)] := hl
  have hw : zHw x A s.heap (w) s.heap [] := hw
  refine lv_iload_n hx hb dX0_nameOf_0 rfl (lv_at hl 0 rfl) ?_
  refine lv_tableOut (tgt := 51) hx hb dX0_nameOf_1 (by decide) (by decide) ?_
  refine zldS hx hb hE hw hown 5 (by decide) rfl rfl dX0_nameOf_51 ?_
  exact zFG.aret hx hb hr (by first | exact Or.inl ⟨_, rfl⟩ | exact Or.inr ⟨_, rfl⟩) (by first | exact Or.inl rfl | exact Or.inr ⟨_, rfl⟩) hlocks hQ hw rfl dX0_nameOf_53 ⟨rfl, rfl⟩
