set_option maxHeartbeats 4000000 in
set_option maxRecDepth 100000 in
theorem c_X3_has (x : zX) (t : Nat → Nat) (S : zT) (lk : Int32) (v : Int32) : zFF x mX3_has 0 [.ref (t 0), .int v] (zTW x t S lk) (some (.int (zb (0 ≤ v ∧ v < S 0 0)))) (zTW x t S lk) := by
  refine zFG.start RX3 cX3_has 2 (some .boolean) rfl rfl (by decide +kernel) (Nat.le_of_ble_eq_true rfl) ?_
  intro p e s m ar below meth c ls A Q hx hb hr hml hown hts hlocks hK hE hA hQ hl hw
  have hl : lv_has ls 2 [(0, .ref (t 0)), (1, .int v)] := hl
  have hw : zHw x A s.heap (zTW x t S lk) s.heap [] := hw
  refine lv_iload_n hx hb dX3_has_0 rfl (lv_at hl 1 rfl) ?_
  refine lv_if_lt (tgt := 16) hx hb dX3_has_1 (by decide) (fun c1 => ?_) (fun c1 => ?_)
  · refine lv_iconst (v := 0) hx hb dX3_has_16 (by decide) ?_
    exact zFG.zret hx hb hr hlocks hQ hw rfl dX3_has_17 (by decide) ⟨zsi (by first | (simp [zb, c1]; done) | (symm; refine zb_f (fun h => ?_); simp only [Int32.lt_iff_toInt_lt, Int32.le_iff_toInt_le] at h c1; omega)), rfl⟩
  · refine lv_iload_n hx hb dX3_has_4 rfl (lv_at hl 1 rfl) ?_
    refine lv_aload_n hx hb dX3_has_5 rfl (lv_at hl 0 rfl) ?_
    refine gfX3_40 hx hb hown hts hK hw 0 rfl rfl dX3_has_6 ?_
    refine lv_icmp_ge (tgt := 16) hx hb dX3_has_9 (by decide) (fun c9 => ?_) (fun c9 => ?_)
    · refine lv_iconst (v := 0) hx hb dX3_has_16 (by decide) ?_
      exact zFG.zret hx hb hr hlocks hQ hw rfl dX3_has_17 (by decide) ⟨zsi (by first | (simp [zb, c1, c9]; done) | (symm; refine zb_f (fun h => ?_); simp only [Int32.lt_iff_toInt_lt, Int32.le_iff_toInt_le] at h c1 c9; omega)), rfl⟩
    · refine lv_iconst (v := 1) hx hb dX3_has_12 (by decide) ?_
      refine lv_goto (tgt := 17) hx hb dX3_has_13 (by decide) ?_
      exact zFG.zret hx hb hr hlocks hQ hw rfl dX3_has_17 (by decide) ⟨zsi (by first | (simp [zb, c1, c9]; done) | (symm; refine zb_f (fun h => ?_); simp only [Int32.lt_iff_toInt_lt, Int32.le_iff_toInt_le] at h c1 c9; omega)), rfl⟩

set_option maxHeartbeats 4000000 in
set_option maxRecDepth 100000 in
theorem c_X3_isFull (x : zX) (t : Nat → Nat) (S : zT) (lk : Int32) : zFF x mX3_isFull 0 [.ref (t 0)] (zTW x t S lk) (some (.int (zb (8 ≤ S 0 0)))) (zTW x t S lk) := by
  refine zFG.start RX3 cX3_isFull 1 (some .boolean) rfl rfl (by decide +kernel) (Nat.le_of_ble_eq_true rfl) ?_
  intro p e s m ar below meth c ls A Q hx hb hr hml hown hts hlocks hK hE hA hQ hl hw
  have hl : lv_has ls 1 [(0, .ref (t 0))] := hl
  have hw : zHw x A s.heap (zTW x t S lk) s.heap [] := hw
  refine lv_aload_n hx hb dX3_isFull_0 rfl (lv_at hl 0 rfl) ?_
  refine gfX3_40 hx hb hown hts hK hw 0 rfl rfl dX3_isFull_1 ?_
  refine lv_bipush (v := 8) hx hb dX3_isFull_4 (by decide) ?_
  refine lv_icmp_lt (tgt := 13) hx hb dX3_isFull_6 (by decide) (fun c6 => ?_) (fun c6 => ?_)
  · refine lv_iconst (v := 0) hx hb dX3_isFull_13 (by decide) ?_
    exact zFG.zret hx hb hr hlocks hQ hw rfl dX3_isFull_14 (by decide) ⟨zsi (by first | (symm; exact zb_f (fun h => absurd c6 (Int32.not_lt.mpr h))) | (symm; exact zb_t (Int32.not_lt.mp c6))), rfl⟩
  · refine lv_iconst (v := 1) hx hb dX3_isFull_9 (by decide) ?_
    refine lv_goto (tgt := 14) hx hb dX3_isFull_10 (by decide) ?_
    exact zFG.zret hx hb hr hlocks hQ hw rfl dX3_isFull_14 (by decide) ⟨zsi (by first | (symm; exact zb_f (fun h => absurd c6 (Int32.not_lt.mpr h))) | (symm; exact zb_t (Int32.not_lt.mp c6))), rfl⟩

set_option maxHeartbeats 4000000 in
set_option maxRecDepth 100000 in
theorem c_X3_weekOfYear (x : zX) (t : Nat → Nat) (S : zT) (lk : Int32) : zFF x mX3_weekOfYear 0 [.ref (t 0)] (zTW x t S lk) (some (.int (zWo S))) (zTW x t S lk) := by
  refine zFG.start RX3 cX3_weekOfYear 1 (some .int) rfl rfl (by decide +kernel) (Nat.le_of_ble_eq_true rfl) ?_
  intro p e s m ar below meth c ls A Q hx hb hr hml hown hts hlocks hK hE hA hQ hl hw
  have hl : lv_has ls 1 [(0, .ref (t 0))] := hl
  have hw : zHw x A s.heap (zTW x t S lk) s.heap [] := hw
  refine lv_aload_n hx hb dX3_weekOfYear_0 rfl (lv_at hl 0 rfl) ?_
  refine gfX3_9 hx hb hown hts hK hw 0 rfl rfl dX3_weekOfYear_1 ?_
  refine lv_bipush (v := 52) hx hb dX3_weekOfYear_4 (by decide) ?_
  refine lv_irem hx hb dX3_weekOfYear_6 (by decide) ?_
  exact zFG.iret hx hb hr hlocks hQ hw rfl dX3_weekOfYear_7 ⟨rfl, rfl⟩

set_option maxHeartbeats 4000000 in
set_option maxRecDepth 100000 in
theorem c_X3_price (x : zX) (t : Nat → Nat) (S : zT) (lk : Int32) (h : Nat) (how : Int32) (hh : h < 8) : zFF x mX3_price 1 [.ref (t 0), .int (nI h), .int how] (zTW x t S lk) (some (.int (zPs S h how))) (zTW x t S lk) := by
  refine zFG.start RX3 cX3_price 4 (some .int) rfl rfl (by decide +kernel) (Nat.le_of_ble_eq_true rfl) ?_
  intro p e s m ar below meth c ls A Q hx hb hr hml hown hts hlocks hK hE hA hQ hl hw
  have hl : lv_has ls 4 [(0, .ref (t 0)), (1, .int (nI h)), (2, .int how)] := hl
  have hw : zHw x A s.heap (zTW x t S lk) s.heap [] := hw
  refine lv_aload_n hx hb dX3_price_0 rfl (lv_at hl 0 rfl) ?_
  refine gfX3_43 hx hb hown hts hK hw 0 rfl rfl dX3_price_1 ?_
  refine lv_iload_n hx hb dX3_price_4 rfl (lv_at hl 1 rfl) ?_
  refine zial hx hb hK hw 3 0 h rfl rfl rfl (by omega) (by decide) dX3_price_5 ?_
  refine lv_aload_n hx hb dX3_price_6 rfl (lv_at hl 0 rfl) ?_
  refine gfX3_49 hx hb hown hts hK hw 0 rfl rfl dX3_price_7 ?_
  refine lv_iload_n hx hb dX3_price_10 rfl (lv_at hl 1 rfl) ?_
  refine zial hx hb hK hw 5 0 h rfl rfl rfl (by omega) (by decide) dX3_price_11 ?_
  refine zcSwi (r := zCp ((S 3) h) ((S 5) h)) hx hb hml hown hts hl.1 hK hE hA lkX3_81 (c_X0_coldPrice x (zTW x t S lk) ((S 3) h) ((S 5) h)) ⟨Nat.le_of_ble_eq_true rfl, Nat.le_of_ble_eq_true rfl⟩ ⟨Nat.zero_le _, Nat.zero_le _⟩ hw rfl rfl (Nat.le_of_ble_eq_true rfl) dX3_price_12 (fun H locs hw => ?_)
  have hw : zHw x A s.heap (zTW x t S lk) H locs := hw
  refine lv_istore_n (lv' := [(3, .int (zCp ((S 3) h) ((S 5) h))), (0, .ref (t 0)), (1, .int (nI h)), (2, .int how)]) hx hb dX3_price_15 rfl hl (by decide) rfl (fun ls hl => ?_)
  refine lv_iload_n hx hb dX3_price_16 rfl (lv_at hl 3 rfl) ?_
  refine lv_if_ne (tgt := 24) hx hb dX3_price_17 (by decide) (fun c17 => ?_) (fun c17 => ?_)
  · refine lv_bipush (v := 11) hx hb dX3_price_24 (by decide) ?_
    refine lv_iload_n hx hb dX3_price_26 rfl (lv_at hl 0 rfl) ?_
    refine lv_imul hx hb dX3_price_27 ?_
    exact zFG.iret hx hb hr hlocks hQ hw rfl dX3_price_28 ⟨zsi (by simp [zPs, zPr, c17]), rfl⟩
  · refine lv_iload_n hx hb dX3_price_20 rfl (lv_at hl 0 rfl) ?_
    refine lv_goto (tgt := 28) hx hb dX3_price_21 (by decide) ?_
    exact zFG.iret hx hb hr hlocks hQ hw rfl dX3_price_28 ⟨zsi (by simp [zPs, zPr, c17]), rfl⟩

set_option maxHeartbeats 4000000 in
set_option maxRecDepth 100000 in
theorem c_X3_growth (x : zX) (t : Nat → Nat) (S : zT) (lk : Int32) (h : Nat) (hI : zInv S) (hh : h < 8) : zFF x mX3_growth 2 [.ref (t 0), .int (nI h)] (zTW x t S lk) (some (.int (zGs S h))) (zTW x t S lk) := by
  obtain ⟨hr5, hr4⟩ := zSr_of hI hh
  refine zFG.start RX3 cX3_growth 4 (some .int) rfl rfl (by decide +kernel) (Nat.le_of_ble_eq_true rfl) ?_
  intro p e s m ar below meth c ls A Q hx hb hr hml hown hts hlocks hK hE hA hQ hl hw
  have hl : lv_has ls 4 [(0, .ref (t 0)), (1, .int (nI h))] := hl
  have hw : zHw x A s.heap (zTW x t S lk) s.heap [] := hw
  refine lv_aload_n hx hb dX3_growth_0 rfl (lv_at hl 0 rfl) ?_
  refine gfX3_46 hx hb hown hts hK hw 0 rfl rfl dX3_growth_1 ?_
  refine lv_iload_n hx hb dX3_growth_4 rfl (lv_at hl 1 rfl) ?_
  refine zial hx hb hK hw 4 0 h rfl rfl rfl (by omega) (by decide) dX3_growth_5 ?_
  refine lv_istore_n (lv' := [(2, .int ((S 4) h)), (0, .ref (t 0)), (1, .int (nI h))]) hx hb dX3_growth_6 rfl hl (by decide) rfl (fun ls hl => ?_)
  refine lv_iload_n hx hb dX3_growth_7 rfl (lv_at hl 0 rfl) ?_
  refine zcNwi (r := zb (0 ≤ (S 4) h ∧ (S 4) h < 6)) hx hb hml hown hts hl.1 hK hE hA lkX3_67 hE.1.1 (c_X5_isStreet x (zTW x t S lk) ((S 4) h)) ⟨Nat.le_of_ble_eq_true rfl, Nat.le_of_ble_eq_true rfl⟩ ⟨Nat.zero_le _, Nat.zero_le _⟩ hw rfl rfl (Nat.le_of_ble_eq_true rfl) dX3_growth_8 (fun H locs hw => ?_)
  have hw : zHw x A s.heap (zTW x t S lk) H locs := hw
  refine lv_if_eq (tgt := 23) hx hb dX3_growth_11 (by decide) (fun c11 => absurd c11 (zb_n0.mpr (show 0 ≤ S 4 h ∧ S 4 h < 6 by rw [hr4]; exact ⟨nI_pos' (by omega), nI_lt (a := zSr S h) (b := 6) hr5 (by decide)⟩))) (fun c11 => ?_)
  refine lv_aload_n hx hb dX3_growth_14 rfl (lv_at hl 1 rfl) ?_
  refine gfX3_33 hx hb hown hts hK hw 0 rfl rfl dX3_growth_15 ?_
  refine lv_iload_n hx hb dX3_growth_18 rfl (lv_at hl 0 rfl) ?_
  refine zial hx hb hK hw 1 0 (zSr S h) rfl rfl hr4 hr5 (by decide) dX3_growth_19 ?_
  refine lv_goto (tgt := 24) hx hb dX3_growth_20 (by decide) ?_
  refine lv_istore_n (lv' := [(3, .int ((S 1) (zSr S h))), (2, .int ((S 4) h)), (0, .ref (t 0)), (1, .int (nI h))]) hx hb dX3_growth_24 rfl hl (by decide) rfl (fun ls hl => ?_)
  refine lv_aload_n hx hb dX3_growth_25 rfl (lv_at hl 2 rfl) ?_
  refine gfX3_43 hx hb hown hts hK hw 0 rfl rfl dX3_growth_26 ?_
  refine lv_iload_n hx hb dX3_growth_29 rfl (lv_at hl 3 rfl) ?_
  refine zial hx hb hK hw 3 0 h rfl rfl rfl (by omega) (by decide) dX3_growth_30 ?_
  refine lv_aload_n hx hb dX3_growth_31 rfl (lv_at hl 2 rfl) ?_
  refine gfX3_49 hx hb hown hts hK hw 0 rfl rfl dX3_growth_32 ?_
  refine lv_iload_n hx hb dX3_growth_35 rfl (lv_at hl 3 rfl) ?_
  refine zial hx hb hK hw 5 0 h rfl rfl rfl (by omega) (by decide) dX3_growth_36 ?_
  refine lv_aload_n hx hb dX3_growth_37 rfl (lv_at hl 2 rfl) ?_
  refine zcVwi (r := zWo S) hx hb hml hown hts hl.1 hK hE hA lkX3_71 (c_X3_weekOfYear x t S lk ) ⟨Nat.le_of_ble_eq_true rfl, Nat.le_of_ble_eq_true rfl⟩ ⟨Nat.zero_le _, Nat.zero_le _⟩ hw 0 2 rfl rfl rfl rfl (Nat.le_of_ble_eq_true rfl) dX3_growth_38 (fun H locs hw => ?_)
  have hw : zHw x A s.heap (zTW x t S lk) H locs := hw
  refine lv_iload_n hx hb dX3_growth_41 rfl (lv_at hl 0 rfl) ?_
  refine zcSwi (r := zGr ((S 3) h) ((S 5) h) (zWo S) ((S 1) (zSr S h))) hx hb hml hown hts hl.1 hK hE hA lkX3_75 (c_X0_growth x (zTW x t S lk) ((S 3) h) ((S 5) h) (zWo S) ((S 1) (zSr S h)) (hI.col 1 (zSr S h) (by decide) (by decide) hr5) (hI.col 5 h (by decide) (by decide) hh)) ⟨Nat.le_of_ble_eq_true rfl, Nat.le_of_ble_eq_true rfl⟩ ⟨Nat.zero_le _, Nat.zero_le _⟩ hw rfl rfl (Nat.le_of_ble_eq_true rfl) dX3_growth_42 (fun H locs hw => ?_)
  have hw : zHw x A s.heap (zTW x t S lk) H locs := hw
  exact zFG.iret hx hb hr hlocks hQ hw rfl dX3_growth_45 ⟨rfl, rfl⟩

set_option maxHeartbeats 4000000 in
set_option maxRecDepth 100000 in
theorem c_X3_isLetGo (x : zX) (t : Nat → Nat) (S : zT) (lk : Int32) (h : Nat) (hI : zInv S) (hh : h < 8) : zFF x mX3_isLetGo 1 [.ref (t 0), .int (nI h)] (zTW x t S lk) (some (.int (zb (zLg S h)))) (zTW x t S lk) := by
  obtain ⟨hr5, hr4⟩ := zSr_of hI hh
  refine zFG.start RX3 cX3_isLetGo 3 (some .boolean) rfl rfl (by decide +kernel) (Nat.le_of_ble_eq_true rfl) ?_
  intro p e s m ar below meth c ls A Q hx hb hr hml hown hts hlocks hK hE hA hQ hl hw
  have hl : lv_has ls 3 [(0, .ref (t 0)), (1, .int (nI h))] := hl
  have hw : zHw x A s.heap (zTW x t S lk) s.heap [] := hw
  refine lv_aload_n hx hb dX3_isLetGo_0 rfl (lv_at hl 0 rfl) ?_
  refine gfX3_46 hx hb hown hts hK hw 0 rfl rfl dX3_isLetGo_1 ?_
  refine lv_iload_n hx hb dX3_isLetGo_4 rfl (lv_at hl 1 rfl) ?_
  refine zial hx hb hK hw 4 0 h rfl rfl rfl (by omega) (by decide) dX3_isLetGo_5 ?_
  refine lv_istore_n (lv' := [(2, .int ((S 4) h)), (0, .ref (t 0)), (1, .int (nI h))]) hx hb dX3_isLetGo_6 rfl hl (by decide) rfl (fun ls hl => ?_)
  refine lv_iload_n hx hb dX3_isLetGo_7 rfl (lv_at hl 0 rfl) ?_
  refine zcNwi (r := zb (0 ≤ (S 4) h ∧ (S 4) h < 6)) hx hb hml hown hts hl.1 hK hE hA lkX3_67 hE.1.1 (c_X5_isStreet x (zTW x t S lk) ((S 4) h)) ⟨Nat.le_of_ble_eq_true rfl, Nat.le_of_ble_eq_true rfl⟩ ⟨Nat.zero_le _, Nat.zero_le _⟩ hw rfl rfl (Nat.le_of_ble_eq_true rfl) dX3_isLetGo_8 (fun H locs hw => ?_)
  have hw : zHw x A s.heap (zTW x t S lk) H locs := hw
  refine lv_if_eq (tgt := 27) hx hb dX3_isLetGo_11 (by decide) (fun c11 => absurd c11 (zb_n0.mpr (show 0 ≤ S 4 h ∧ S 4 h < 6 by rw [hr4]; exact ⟨nI_pos' (by omega), nI_lt (a := zSr S h) (b := 6) hr5 (by decide)⟩))) (fun c11 => ?_)
  refine lv_aload_n hx hb dX3_isLetGo_14 rfl (lv_at hl 1 rfl) ?_
  refine gfX3_37 hx hb hown hts hK hw 0 rfl rfl dX3_isLetGo_15 ?_
  refine lv_iload_n hx hb dX3_isLetGo_18 rfl (lv_at hl 0 rfl) ?_
  refine zial hx hb hK hw 2 0 (zSr S h) rfl rfl hr4 hr5 (by decide) dX3_isLetGo_19 ?_
  refine lv_if_eq (tgt := 27) hx hb dX3_isLetGo_20 (by decide) (fun c20 => ?_) (fun c20 => ?_)
  · refine lv_iconst (v := 0) hx hb dX3_isLetGo_27 (by decide) ?_
    exact zFG.zret hx hb hr hlocks hQ hw rfl dX3_isLetGo_28 (by decide) ⟨zsi (by simp [zb, zLg, c20]), rfl⟩
  · refine lv_iconst (v := 1) hx hb dX3_isLetGo_23 (by decide) ?_
    refine lv_goto (tgt := 28) hx hb dX3_isLetGo_24 (by decide) ?_
    exact zFG.zret hx hb hr hlocks hQ hw rfl dX3_isLetGo_28 (by decide) ⟨zsi (by simp [zb, zLg, c20]), rfl⟩

set_option maxHeartbeats 4000000 in
set_option maxRecDepth 100000 in
theorem c_X3_comesAheadOf (x : zX) (t : Nat → Nat) (S : zT) (lk : Int32) (h o : Nat) (hh : h < 8) (ho : o < 8) : zFF x mX3_comesAheadOf 0 [.ref (t 0), .int (nI h), .int (nI o)] (zTW x t S lk) (some (.int (zb (zAh S h o)))) (zTW x t S lk) := by
  refine zFG.start RX3 cX3_comesAheadOf 4 (some .boolean) rfl rfl (by decide +kernel) (Nat.le_of_ble_eq_true rfl) ?_
  intro p e s m ar below meth c ls A Q hx hb hr hml hown hts hlocks hK hE hA hQ hl hw
  have hl : lv_has ls 4 [(0, .ref (t 0)), (1, .int (nI h)), (2, .int (nI o))] := hl
  have hw : zHw x A s.heap (zTW x t S lk) s.heap [] := hw
  refine lv_aload_n hx hb dX3_comesAheadOf_0 rfl (lv_at hl 0 rfl) ?_
  refine gfX3_43 hx hb hown hts hK hw 0 rfl rfl dX3_comesAheadOf_1 ?_
  refine lv_iload_n hx hb dX3_comesAheadOf_4 rfl (lv_at hl 1 rfl) ?_
  refine zial hx hb hK hw 3 0 h rfl rfl rfl (by omega) (by decide) dX3_comesAheadOf_5 ?_
  refine lv_iconst (v := 4) hx hb dX3_comesAheadOf_6 (by decide) ?_
  refine lv_icmp_ne (tgt := 14) hx hb dX3_comesAheadOf_7 (by decide) (fun c7 => ?_) (fun c7 => ?_)
  · refine lv_iconst (v := 0) hx hb dX3_comesAheadOf_14 (by decide) ?_
    refine lv_istore_n (lv' := [(3, .int 0), (0, .ref (t 0)), (1, .int (nI h)), (2, .int (nI o))]) hx hb dX3_comesAheadOf_15 rfl hl (by decide) rfl (fun ls hl => ?_)
    refine lv_iload_n hx hb dX3_comesAheadOf_16 rfl (lv_at hl 0 rfl) ?_
    refine lv_aload_n hx hb dX3_comesAheadOf_17 rfl (lv_at hl 1 rfl) ?_
    refine gfX3_43 hx hb hown hts hK hw 0 rfl rfl dX3_comesAheadOf_18 ?_
    refine lv_iload_n hx hb dX3_comesAheadOf_21 rfl (lv_at hl 3 rfl) ?_
    refine zial hx hb hK hw 3 0 o rfl rfl rfl (by omega) (by decide) dX3_comesAheadOf_22 ?_
    refine lv_iconst (v := 4) hx hb dX3_comesAheadOf_23 (by decide) ?_
    refine lv_icmp_ne (tgt := 31) hx hb dX3_comesAheadOf_24 (by decide) (fun c24 => ?_) (fun c24 => ?_)
    · refine lv_iconst (v := 0) hx hb dX3_comesAheadOf_31 (by decide) ?_
      refine lv_icmp_eq (tgt := 37) hx hb dX3_comesAheadOf_32 (by decide) (fun c32 => ?_) (fun c32 => absurd (rfl) c32)
      refine lv_aload_n hx hb dX3_comesAheadOf_37 rfl (lv_at hl 1 rfl) ?_
      refine gfX3_58 hx hb hown hts hK hw 0 rfl rfl dX3_comesAheadOf_38 ?_
      refine lv_iload_n hx hb dX3_comesAheadOf_41 rfl (lv_at hl 2 rfl) ?_
      refine zial hx hb hK hw 8 0 h rfl rfl rfl (by omega) (by decide) dX3_comesAheadOf_42 ?_
      refine lv_aload_n hx hb dX3_comesAheadOf_43 rfl (lv_at hl 1 rfl) ?_
      refine gfX3_58 hx hb hown hts hK hw 0 rfl rfl dX3_comesAheadOf_44 ?_
      refine lv_iload_n hx hb dX3_comesAheadOf_47 rfl (lv_at hl 3 rfl) ?_
      refine zial hx hb hK hw 8 0 o rfl rfl rfl (by omega) (by decide) dX3_comesAheadOf_48 ?_
      refine lv_icmp_eq (tgt := 73) hx hb dX3_comesAheadOf_49 (by decide) (fun c49 => ?_) (fun c49 => ?_)
      · refine lv_aload_n hx hb dX3_comesAheadOf_73 rfl (lv_at hl 1 rfl) ?_
        refine gfX3_49 hx hb hown hts hK hw 0 rfl rfl dX3_comesAheadOf_74 ?_
        refine lv_iload_n hx hb dX3_comesAheadOf_77 rfl (lv_at hl 2 rfl) ?_
        refine zial hx hb hK hw 5 0 h rfl rfl rfl (by omega) (by decide) dX3_comesAheadOf_78 ?_
        refine lv_aload_n hx hb dX3_comesAheadOf_79 rfl (lv_at hl 1 rfl) ?_
        refine gfX3_49 hx hb hown hts hK hw 0 rfl rfl dX3_comesAheadOf_80 ?_
        refine lv_iload_n hx hb dX3_comesAheadOf_83 rfl (lv_at hl 3 rfl) ?_
        refine zial hx hb hK hw 5 0 o rfl rfl rfl (by omega) (by decide) dX3_comesAheadOf_84 ?_
        refine lv_icmp_le (tgt := 92) hx hb dX3_comesAheadOf_85 (by decide) (fun c85 => ?_) (fun c85 => ?_)
        · refine lv_iconst (v := 0) hx hb dX3_comesAheadOf_92 (by decide) ?_
          exact zFG.zret hx hb hr hlocks hQ hw rfl dX3_comesAheadOf_93 (by decide) ⟨zsi (by simp [zb, zAh, c7, c24, c49, c85]), rfl⟩
        · refine lv_iconst (v := 1) hx hb dX3_comesAheadOf_88 (by decide) ?_
          refine lv_goto (tgt := 93) hx hb dX3_comesAheadOf_89 (by decide) ?_
          exact zFG.zret hx hb hr hlocks hQ hw rfl dX3_comesAheadOf_93 (by decide) ⟨zsi (by simp [zb, zAh, c7, c24, c49, c85]), rfl⟩
      · refine lv_aload_n hx hb dX3_comesAheadOf_52 rfl (lv_at hl 1 rfl) ?_
        refine gfX3_58 hx hb hown hts hK hw 0 rfl rfl dX3_comesAheadOf_53 ?_
        refine lv_iload_n hx hb dX3_comesAheadOf_56 rfl (lv_at hl 2 rfl) ?_
        refine zial hx hb hK hw 8 0 h rfl rfl rfl (by omega) (by decide) dX3_comesAheadOf_57 ?_
        refine lv_aload_n hx hb dX3_comesAheadOf_58 rfl (lv_at hl 1 rfl) ?_
        refine gfX3_58 hx hb hown hts hK hw 0 rfl rfl dX3_comesAheadOf_59 ?_
        refine lv_iload_n hx hb dX3_comesAheadOf_62 rfl (lv_at hl 3 rfl) ?_
        refine zial hx hb hK hw 8 0 o rfl rfl rfl (by omega) (by decide) dX3_comesAheadOf_63 ?_
        refine lv_icmp_le (tgt := 71) hx hb dX3_comesAheadOf_64 (by decide) (fun c64 => ?_) (fun c64 => ?_)
        · refine lv_iconst (v := 0) hx hb dX3_comesAheadOf_71 (by decide) ?_
          exact zFG.zret hx hb hr hlocks hQ hw rfl dX3_comesAheadOf_72 (by decide) ⟨zsi (by simp [zb, zAh, c7, c24, c49, c64]), rfl⟩
        · refine lv_iconst (v := 1) hx hb dX3_comesAheadOf_67 (by decide) ?_
          refine lv_goto (tgt := 72) hx hb dX3_comesAheadOf_68 (by decide) ?_
          exact zFG.zret hx hb hr hlocks hQ hw rfl dX3_comesAheadOf_72 (by decide) ⟨zsi (by simp [zb, zAh, c7, c24, c49, c64]), rfl⟩
    · refine lv_iconst (v := 1) hx hb dX3_comesAheadOf_27 (by decide) ?_
      refine lv_goto (tgt := 32) hx hb dX3_comesAheadOf_28 (by decide) ?_
      refine lv_icmp_eq (tgt := 37) hx hb dX3_comesAheadOf_32 (by decide) (fun c32 => absurd c32 (by decide)) (fun c32 => ?_)
      refine lv_iload_n hx hb dX3_comesAheadOf_35 rfl (lv_at hl 0 rfl) ?_
      exact zFG.zret hx hb hr hlocks hQ hw rfl dX3_comesAheadOf_36 (by decide) ⟨zsi (by simp [zb, zAh, c7, c24]), rfl⟩
  · refine lv_iconst (v := 1) hx hb dX3_comesAheadOf_10 (by decide) ?_
    refine lv_goto (tgt := 15) hx hb dX3_comesAheadOf_11 (by decide) ?_
    refine lv_istore_n (lv' := [(3, .int 1), (0, .ref (t 0)), (1, .int (nI h)), (2, .int (nI o))]) hx hb dX3_comesAheadOf_15 rfl hl (by decide) rfl (fun ls hl => ?_)
    refine lv_iload_n hx hb dX3_comesAheadOf_16 rfl (lv_at hl 0 rfl) ?_
    refine lv_aload_n hx hb dX3_comesAheadOf_17 rfl (lv_at hl 1 rfl) ?_
    refine gfX3_43 hx hb hown hts hK hw 0 rfl rfl dX3_comesAheadOf_18 ?_
    refine lv_iload_n hx hb dX3_comesAheadOf_21 rfl (lv_at hl 3 rfl) ?_
    refine zial hx hb hK hw 3 0 o rfl rfl rfl (by omega) (by decide) dX3_comesAheadOf_22 ?_
    refine lv_iconst (v := 4) hx hb dX3_comesAheadOf_23 (by decide) ?_
    refine lv_icmp_ne (tgt := 31) hx hb dX3_comesAheadOf_24 (by decide) (fun c24 => ?_) (fun c24 => ?_)
    · refine lv_iconst (v := 0) hx hb dX3_comesAheadOf_31 (by decide) ?_
      refine lv_icmp_eq (tgt := 37) hx hb dX3_comesAheadOf_32 (by decide) (fun c32 => absurd c32 (by decide)) (fun c32 => ?_)
      refine lv_iload_n hx hb dX3_comesAheadOf_35 rfl (lv_at hl 0 rfl) ?_
      exact zFG.zret hx hb hr hlocks hQ hw rfl dX3_comesAheadOf_36 (by decide) ⟨zsi (by simp [zb, zAh, c7, c24]), rfl⟩
    · refine lv_iconst (v := 1) hx hb dX3_comesAheadOf_27 (by decide) ?_
      refine lv_goto (tgt := 32) hx hb dX3_comesAheadOf_28 (by decide) ?_
      refine lv_icmp_eq (tgt := 37) hx hb dX3_comesAheadOf_32 (by decide) (fun c32 => ?_) (fun c32 => absurd (rfl) c32)
      refine lv_aload_n hx hb dX3_comesAheadOf_37 rfl (lv_at hl 1 rfl) ?_
      refine gfX3_58 hx hb hown hts hK hw 0 rfl rfl dX3_comesAheadOf_38 ?_
      refine lv_iload_n hx hb dX3_comesAheadOf_41 rfl (lv_at hl 2 rfl) ?_
      refine zial hx hb hK hw 8 0 h rfl rfl rfl (by omega) (by decide) dX3_comesAheadOf_42 ?_
      refine lv_aload_n hx hb dX3_comesAheadOf_43 rfl (lv_at hl 1 rfl) ?_
      refine gfX3_58 hx hb hown hts hK hw 0 rfl rfl dX3_comesAheadOf_44 ?_
      refine lv_iload_n hx hb dX3_comesAheadOf_47 rfl (lv_at hl 3 rfl) ?_
      refine zial hx hb hK hw 8 0 o rfl rfl rfl (by omega) (by decide) dX3_comesAheadOf_48 ?_
      refine lv_icmp_eq (tgt := 73) hx hb dX3_comesAheadOf_49 (by decide) (fun c49 => ?_) (fun c49 => ?_)
      · refine lv_aload_n hx hb dX3_comesAheadOf_73 rfl (lv_at hl 1 rfl) ?_
        refine gfX3_49 hx hb hown hts hK hw 0 rfl rfl dX3_comesAheadOf_74 ?_
        refine lv_iload_n hx hb dX3_comesAheadOf_77 rfl (lv_at hl 2 rfl) ?_
        refine zial hx hb hK hw 5 0 h rfl rfl rfl (by omega) (by decide) dX3_comesAheadOf_78 ?_
        refine lv_aload_n hx hb dX3_comesAheadOf_79 rfl (lv_at hl 1 rfl) ?_
        refine gfX3_49 hx hb hown hts hK hw 0 rfl rfl dX3_comesAheadOf_80 ?_
        refine lv_iload_n hx hb dX3_comesAheadOf_83 rfl (lv_at hl 3 rfl) ?_
        refine zial hx hb hK hw 5 0 o rfl rfl rfl (by omega) (by decide) dX3_comesAheadOf_84 ?_
        refine lv_icmp_le (tgt := 92) hx hb dX3_comesAheadOf_85 (by decide) (fun c85 => ?_) (fun c85 => ?_)
        · refine lv_iconst (v := 0) hx hb dX3_comesAheadOf_92 (by decide) ?_
          exact zFG.zret hx hb hr hlocks hQ hw rfl dX3_comesAheadOf_93 (by decide) ⟨zsi (by simp [zb, zAh, c7, c24, c49, c85]), rfl⟩
        · refine lv_iconst (v := 1) hx hb dX3_comesAheadOf_88 (by decide) ?_
          refine lv_goto (tgt := 93) hx hb dX3_comesAheadOf_89 (by decide) ?_
          exact zFG.zret hx hb hr hlocks hQ hw rfl dX3_comesAheadOf_93 (by decide) ⟨zsi (by simp [zb, zAh, c7, c24, c49, c85]), rfl⟩
      · refine lv_aload_n hx hb dX3_comesAheadOf_52 rfl (lv_at hl 1 rfl) ?_
        refine gfX3_58 hx hb hown hts hK hw 0 rfl rfl dX3_comesAheadOf_53 ?_
        refine lv_iload_n hx hb dX3_comesAheadOf_56 rfl (lv_at hl 2 rfl) ?_
        refine zial hx hb hK hw 8 0 h rfl rfl rfl (by omega) (by decide) dX3_comesAheadOf_57 ?_
        refine lv_aload_n hx hb dX3_comesAheadOf_58 rfl (lv_at hl 1 rfl) ?_
        refine gfX3_58 hx hb hown hts hK hw 0 rfl rfl dX3_comesAheadOf_59 ?_
        refine lv_iload_n hx hb dX3_comesAheadOf_62 rfl (lv_at hl 3 rfl) ?_
        refine zial hx hb hK hw 8 0 o rfl rfl rfl (by omega) (by decide) dX3_comesAheadOf_63 ?_
        refine lv_icmp_le (tgt := 71) hx hb dX3_comesAheadOf_64 (by decide) (fun c64 => ?_) (fun c64 => ?_)
        · refine lv_iconst (v := 0) hx hb dX3_comesAheadOf_71 (by decide) ?_
          exact zFG.zret hx hb hr hlocks hQ hw rfl dX3_comesAheadOf_72 (by decide) ⟨zsi (by simp [zb, zAh, c7, c24, c49, c64]), rfl⟩
        · refine lv_iconst (v := 1) hx hb dX3_comesAheadOf_67 (by decide) ?_
          refine lv_goto (tgt := 72) hx hb dX3_comesAheadOf_68 (by decide) ?_
          exact zFG.zret hx hb hr hlocks hQ hw rfl dX3_comesAheadOf_72 (by decide) ⟨zsi (by simp [zb, zAh, c7, c24, c49, c64]), rfl⟩

set_option maxHeartbeats 4000000 in
set_option maxRecDepth 100000 in
theorem c_X3_holesIn (x : zX) (t : Nat → Nat) (S : zT) (lk : Int32) (v : Int32) (hI : zInv S) : zFF x mX3_holesIn 0 [.ref (t 0), .int v] (zTW x t S lk) (some (.int (zBi (fun h => decide (S 4 h = v)) (zN S)))) (zTW x t S lk) := by
  obtain ⟨n, hn, h0⟩ := hI.holes
  have hN : zN S = n := zN_of hn h0
  refine zFG.start RX3 cX3_holesIn 4 (some .int) rfl rfl (by decide +kernel) (Nat.le_of_ble_eq_true rfl) ?_
  intro p e s m ar below meth c ls A Q hx hb hr hml hown hts hlocks hK hE hA hQ hl hw
  have hl : lv_has ls 4 [(0, .ref (t 0)), (1, .int v)] := hl
  have hw : zHw x A s.heap (zTW x t S lk) s.heap [] := hw
  refine lv_iconst (v := 0) hx hb dX3_holesIn_0 (by decide) ?_
  refine lv_istore_n (lv' := [(2, .int 0), (0, .ref (t 0)), (1, .int v)]) hx hb dX3_holesIn_1 rfl hl (by decide) rfl (fun ls hl => ?_)
  refine lv_iconst (v := 0) hx hb dX3_holesIn_2 (by decide) ?_
  refine lv_istore_n (lv' := [(3, .int 0), (2, .int 0), (0, .ref (t 0)), (1, .int v)]) hx hb dX3_holesIn_3 rfl hl (by decide) rfl (fun ls hl => ?_)
  have loop4 : ∀ (dd : Nat) (k : Nat), n - k < dd → (hk : k ≤ n) → ∀ (H : Heap) (locs : List Loc) (ls : Array Slot), zHw x A s.heap (zTW x t S lk) H locs → lv_has ls 4 [(0, .ref (t 0)), (1, .int v), (2, .int (zBi (fun h => decide (S 4 h = v)) k)), (3, .int (nI k))] → W p x.1 e (zRM 0) s m ar below meth c H locs 0 0 Q (F0 m 4 ls []) := by
    intro dd
    induction dd with
    | zero => intro k hm; exact absurd hm (Nat.not_lt_zero _)
    | succ dd ih4 =>
      intro k hm hk H locs ls hw hl
      refine lv_iload_n hx hb dX3_holesIn_4 rfl (lv_at hl 3 rfl) ?_
      refine lv_aload_n hx hb dX3_holesIn_5 rfl (lv_at hl 0 rfl) ?_
      refine gfX3_40 hx hb hown hts hK hw 0 rfl rfl dX3_holesIn_6 ?_
      refine lv_icmp_ge (tgt := 34) hx hb dX3_holesIn_9 (by decide) (fun c9 => ?_) (fun c9 => ?_)
      · have hke : k = n := zke h0 (by omega) hk c9
        refine lv_iload_n hx hb dX3_holesIn_34 rfl (lv_at hl 2 rfl) ?_
        exact zFG.iret hx hb hr hlocks hQ hw rfl dX3_holesIn_35 ⟨zsi (by rw [hN, ← hke]), rfl⟩
      · have hkn : k < n := zkn h0 (by omega) hk c9
        refine lv_aload_n hx hb dX3_holesIn_12 rfl (lv_at hl 0 rfl) ?_
        refine gfX3_46 hx hb hown hts hK hw 0 rfl rfl dX3_holesIn_13 ?_
        refine lv_iload_n hx hb dX3_holesIn_16 rfl (lv_at hl 3 rfl) ?_
        refine zial hx hb hK hw 4 0 k rfl rfl rfl (by omega) (by decide) dX3_holesIn_17 ?_
        refine lv_iload_n hx hb dX3_holesIn_18 rfl (lv_at hl 1 rfl) ?_
        refine lv_icmp_ne (tgt := 28) hx hb dX3_holesIn_19 (by decide) (fun c19 => ?_) (fun c19 => ?_)
        · have hl : lv_has ls 4 [(0, .ref (t 0)), (1, .int v), (2, .int (zBi (fun h => decide (S 4 h = v)) (k + 1))), (3, .int (nI k))] := by
            rw [show zBi (fun h => decide (S 4 h = v)) (k + 1) = zBi (fun h => decide (S 4 h = v)) k from (by simp [zBi, c9, c19])]; exact hl
          refine lv_iinc (v := nI (k + 1)) (lv' := [(3, .int (nI (k + 1))), (0, .ref (t 0)), (1, .int v), (2, .int (zBi (fun h => decide (S 4 h = v)) (k + 1)))]) hx hb dX3_holesIn_28 hl (k := 3) rfl (nI_1 k) (by decide) rfl (fun ls hl => ?_)
          refine lv_goto (tgt := 4) hx hb dX3_holesIn_31 (by decide) ?_
          exact ih4 (k + 1) (by omega) (by omega) _ _ _ hw (lv_sub hl [1, 2, 3, 0] rfl)
        · refine lv_iload_n hx hb dX3_holesIn_22 rfl (lv_at hl 2 rfl) ?_
          refine lv_iconst (v := 1) hx hb dX3_holesIn_23 (by decide) ?_
          refine lv_iload_n hx hb dX3_holesIn_24 rfl (lv_at hl 3 rfl) ?_
          refine lv_ishl hx hb dX3_holesIn_25 ?_
          refine lv_ior hx hb dX3_holesIn_26 ?_
          refine lv_istore_n (lv' := [(2, .int ((zBi (fun h => decide (S 4 h = v)) k) ||| (1 <<< ((nI k) &&& 31)))), (0, .ref (t 0)), (1, .int v), (3, .int (nI k))]) hx hb dX3_holesIn_27 rfl hl (by decide) rfl (fun ls hl => ?_)
          have hl : lv_has ls 4 [(2, .int (zBi (fun h => decide (S 4 h = v)) (k + 1))), (0, .ref (t 0)), (1, .int v), (3, .int (nI k))] := by
            rw [show zBi (fun h => decide (S 4 h = v)) (k + 1) = (zBi (fun h => decide (S 4 h = v)) k) ||| (1 <<< ((nI k) &&& 31)) from (by simp [zBi, c9, c19])]; exact hl
          refine lv_iinc (v := nI (k + 1)) (lv' := [(3, .int (nI (k + 1))), (2, .int (zBi (fun h => decide (S 4 h = v)) (k + 1))), (0, .ref (t 0)), (1, .int v)]) hx hb dX3_holesIn_28 hl (k := 3) rfl (nI_1 k) (by decide) rfl (fun ls hl => ?_)
          refine lv_goto (tgt := 4) hx hb dX3_holesIn_31 (by decide) ?_
          exact ih4 (k + 1) (by omega) (by omega) _ _ _ hw (lv_sub hl [2, 3, 1, 0] rfl)
  exact loop4 (_ + 1) 0 (Nat.lt_succ_self _) (Nat.zero_le _) _ _ _ hw (lv_sub hl [2, 3, 1, 0] rfl)

set_option maxHeartbeats 4000000 in
set_option maxRecDepth 100000 in
theorem c_X3_openHoles (x : zX) (t : Nat → Nat) (S : zT) (lk : Int32) (hI : zInv S) : zFF x mX3_openHoles 0 [.ref (t 0)] (zTW x t S lk) (some (.int (zBi (zopn S) (zN S)))) (zTW x t S lk) := by
  obtain ⟨n, hn, h0⟩ := hI.holes
  have hN : zN S = n := zN_of hn h0
  refine zFG.start RX3 cX3_openHoles 3 (some .int) rfl rfl (by decide +kernel) (Nat.le_of_ble_eq_true rfl) ?_
  intro p e s m ar below meth c ls A Q hx hb hr hml hown hts hlocks hK hE hA hQ hl hw
  have hl : lv_has ls 3 [(0, .ref (t 0))] := hl
  have hw : zHw x A s.heap (zTW x t S lk) s.heap [] := hw
  refine lv_iconst (v := 0) hx hb dX3_openHoles_0 (by decide) ?_
  refine lv_istore_n (lv' := [(1, .int 0), (0, .ref (t 0))]) hx hb dX3_openHoles_1 rfl hl (by decide) rfl (fun ls hl => ?_)
  refine lv_iconst (v := 0) hx hb dX3_openHoles_2 (by decide) ?_
  refine lv_istore_n (lv' := [(2, .int 0), (1, .int 0), (0, .ref (t 0))]) hx hb dX3_openHoles_3 rfl hl (by decide) rfl (fun ls hl => ?_)
  have loop4 : ∀ (dd : Nat) (k : Nat), n - k < dd → (hk : k ≤ n) → ∀ (H : Heap) (locs : List Loc) (ls : Array Slot), zHw x A s.heap (zTW x t S lk) H locs → lv_has ls 3 [(0, .ref (t 0)), (1, .int (zBi (zopn S) k)), (2, .int (nI k))] → W p x.1 e (zRM 0) s m ar below meth c H locs 0 0 Q (F0 m 4 ls []) := by
    intro dd
    induction dd with
    | zero => intro k hm; exact absurd hm (Nat.not_lt_zero _)
    | succ dd ih4 =>
      intro k hm hk H locs ls hw hl
      refine lv_iload_n hx hb dX3_openHoles_4 rfl (lv_at hl 2 rfl) ?_
      refine lv_aload_n hx hb dX3_openHoles_5 rfl (lv_at hl 0 rfl) ?_
      refine gfX3_40 hx hb hown hts hK hw 0 rfl rfl dX3_openHoles_6 ?_
      refine lv_icmp_ge (tgt := 33) hx hb dX3_openHoles_9 (by decide) (fun c9 => ?_) (fun c9 => ?_)
      · have hke : k = n := zke h0 (by omega) hk c9
        refine lv_iload_n hx hb dX3_openHoles_33 rfl (lv_at hl 1 rfl) ?_
        exact zFG.iret hx hb hr hlocks hQ hw rfl dX3_openHoles_34 ⟨zsi (by rw [hN, ← hke]), rfl⟩
      · have hkn : k < n := zkn h0 (by omega) hk c9
        refine lv_aload_n hx hb dX3_openHoles_12 rfl (lv_at hl 0 rfl) ?_
        refine gfX3_52 hx hb hown hts hK hw 0 rfl rfl dX3_openHoles_13 ?_
        refine lv_iload_n hx hb dX3_openHoles_16 rfl (lv_at hl 2 rfl) ?_
        refine zial hx hb hK hw 6 0 k rfl rfl rfl (by omega) (by decide) dX3_openHoles_17 ?_
        refine lv_if_ne (tgt := 27) hx hb dX3_openHoles_18 (by decide) (fun c18 => ?_) (fun c18 => ?_)
        · have hl : lv_has ls 3 [(0, .ref (t 0)), (1, .int (zBi (zopn S) (k + 1))), (2, .int (nI k))] := by
            rw [show zBi (zopn S) (k + 1) = zBi (zopn S) k from (by simp [zBi, zopn, c9, c18])]; exact hl
          refine lv_iinc (v := nI (k + 1)) (lv' := [(2, .int (nI (k + 1))), (0, .ref (t 0)), (1, .int (zBi (zopn S) (k + 1)))]) hx hb dX3_openHoles_27 hl (k := 2) rfl (nI_1 k) (by decide) rfl (fun ls hl => ?_)
          refine lv_goto (tgt := 4) hx hb dX3_openHoles_30 (by decide) ?_
          exact ih4 (k + 1) (by omega) (by omega) _ _ _ hw (lv_sub hl [1, 2, 0] rfl)
        · refine lv_iload_n hx hb dX3_openHoles_21 rfl (lv_at hl 1 rfl) ?_
          refine lv_iconst (v := 1) hx hb dX3_openHoles_22 (by decide) ?_
          refine lv_iload_n hx hb dX3_openHoles_23 rfl (lv_at hl 2 rfl) ?_
          refine lv_ishl hx hb dX3_openHoles_24 ?_
          refine lv_ior hx hb dX3_openHoles_25 ?_
          refine lv_istore_n (lv' := [(1, .int ((zBi (zopn S) k) ||| (1 <<< ((nI k) &&& 31)))), (0, .ref (t 0)), (2, .int (nI k))]) hx hb dX3_openHoles_26 rfl hl (by decide) rfl (fun ls hl => ?_)
          have hl : lv_has ls 3 [(1, .int (zBi (zopn S) (k + 1))), (0, .ref (t 0)), (2, .int (nI k))] := by
            rw [show zBi (zopn S) (k + 1) = (zBi (zopn S) k) ||| (1 <<< ((nI k) &&& 31)) from (by simp [zBi, zopn, c9, c18])]; exact hl
          refine lv_iinc (v := nI (k + 1)) (lv' := [(2, .int (nI (k + 1))), (1, .int (zBi (zopn S) (k + 1))), (0, .ref (t 0))]) hx hb dX3_openHoles_27 hl (k := 2) rfl (nI_1 k) (by decide) rfl (fun ls hl => ?_)
          refine lv_goto (tgt := 4) hx hb dX3_openHoles_30 (by decide) ?_
          exact ih4 (k + 1) (by omega) (by omega) _ _ _ hw (lv_sub hl [2, 1, 0] rfl)
  exact loop4 (_ + 1) 0 (Nat.lt_succ_self _) (Nat.zero_le _) _ _ _ hw (lv_sub hl [2, 1, 0] rfl)

set_option maxHeartbeats 4000000 in
set_option maxRecDepth 100000 in
theorem c_X3_holesRungFor (x : zX) (t : Nat → Nat) (S : zT) (lk : Int32) (hI : zInv S) : zFF x mX3_holesRungFor 0 [.ref (t 0)] (zTW x t S lk) (some (.int (zSu (fun _ => true) (S 8) (zN S)))) (zTW x t S lk) := by
  obtain ⟨n, hn, h0⟩ := hI.holes
  have hN : zN S = n := zN_of hn h0
  refine zFG.start RX3 cX3_holesRungFor 3 (some .int) rfl rfl (by decide +kernel) (Nat.le_of_ble_eq_true rfl) ?_
  intro p e s m ar below meth c ls A Q hx hb hr hml hown hts hlocks hK hE hA hQ hl hw
  have hl : lv_has ls 3 [(0, .ref (t 0))] := hl
  have hw : zHw x A s.heap (zTW x t S lk) s.heap [] := hw
  refine lv_iconst (v := 0) hx hb dX3_holesRungFor_0 (by decide) ?_
  refine lv_istore_n (lv' := [(1, .int 0), (0, .ref (t 0))]) hx hb dX3_holesRungFor_1 rfl hl (by decide) rfl (fun ls hl => ?_)
  refine lv_iconst (v := 0) hx hb dX3_holesRungFor_2 (by decide) ?_
  refine lv_istore_n (lv' := [(2, .int 0), (1, .int 0), (0, .ref (t 0))]) hx hb dX3_holesRungFor_3 rfl hl (by decide) rfl (fun ls hl => ?_)
  have loop4 : ∀ (dd : Nat) (k : Nat), n - k < dd → (hk : k ≤ n) → ∀ (H : Heap) (locs : List Loc) (ls : Array Slot), zHw x A s.heap (zTW x t S lk) H locs → lv_has ls 3 [(0, .ref (t 0)), (1, .int (zSu (fun _ => true) (S 8) k)), (2, .int (nI k))] → W p x.1 e (zRM 0) s m ar below meth c H locs 0 0 Q (F0 m 4 ls []) := by
    intro dd
    induction dd with
    | zero => intro k hm; exact absurd hm (Nat.not_lt_zero _)
    | succ dd ih4 =>
      intro k hm hk H locs ls hw hl
      refine lv_iload_n hx hb dX3_holesRungFor_4 rfl (lv_at hl 2 rfl) ?_
      refine lv_aload_n hx hb dX3_holesRungFor_5 rfl (lv_at hl 0 rfl) ?_
      refine gfX3_40 hx hb hown hts hK hw 0 rfl rfl dX3_holesRungFor_6 ?_
      refine lv_icmp_ge (tgt := 27) hx hb dX3_holesRungFor_9 (by decide) (fun c9 => ?_) (fun c9 => ?_)
      · have hke : k = n := zke h0 (by omega) hk c9
        refine lv_iload_n hx hb dX3_holesRungFor_27 rfl (lv_at hl 1 rfl) ?_
        exact zFG.iret hx hb hr hlocks hQ hw rfl dX3_holesRungFor_28 ⟨zsi (by rw [hN, ← hke]), rfl⟩
      · have hkn : k < n := zkn h0 (by omega) hk c9
        refine lv_iload_n hx hb dX3_holesRungFor_12 rfl (lv_at hl 1 rfl) ?_
        refine lv_aload_n hx hb dX3_holesRungFor_13 rfl (lv_at hl 0 rfl) ?_
        refine gfX3_58 hx hb hown hts hK hw 0 rfl rfl dX3_holesRungFor_14 ?_
        refine lv_iload_n hx hb dX3_holesRungFor_17 rfl (lv_at hl 2 rfl) ?_
        refine zial hx hb hK hw 8 0 k rfl rfl rfl (by omega) (by decide) dX3_holesRungFor_18 ?_
        refine lv_iadd hx hb dX3_holesRungFor_19 ?_
        refine lv_istore_n (lv' := [(1, .int ((zSu (fun _ => true) (S 8) k) + ((S 8) k))), (0, .ref (t 0)), (2, .int (nI k))]) hx hb dX3_holesRungFor_20 rfl hl (by decide) rfl (fun ls hl => ?_)
        have hl : lv_has ls 3 [(1, .int (zSu (fun _ => true) (S 8) (k + 1))), (0, .ref (t 0)), (2, .int (nI k))] := by
          rw [show zSu (fun _ => true) (S 8) (k + 1) = (zSu (fun _ => true) (S 8) k) + ((S 8) k) from (by simp [zSu, c9])]; exact hl
        refine lv_iinc (v := nI (k + 1)) (lv' := [(2, .int (nI (k + 1))), (1, .int (zSu (fun _ => true) (S 8) (k + 1))), (0, .ref (t 0))]) hx hb dX3_holesRungFor_21 hl (k := 2) rfl (nI_1 k) (by decide) rfl (fun ls hl => ?_)
        refine lv_goto (tgt := 4) hx hb dX3_holesRungFor_24 (by decide) ?_
        exact ih4 (k + 1) (by omega) (by omega) _ _ _ hw (lv_sub hl [2, 1, 0] rfl)
  exact loop4 (_ + 1) 0 (Nat.lt_succ_self _) (Nat.zero_le _) _ _ _ hw (lv_sub hl [2, 1, 0] rfl)

set_option maxHeartbeats 4000000 in
set_option maxRecDepth 100000 in
theorem c_X3_openSize (x : zX) (t : Nat → Nat) (S : zT) (lk : Int32) (hI : zInv S) : zFF x mX3_openSize 0 [.ref (t 0)] (zTW x t S lk) (some (.int (zSu (zopn S) (S 5) (zN S)))) (zTW x t S lk) := by
  obtain ⟨n, hn, h0⟩ := hI.holes
  have hN : zN S = n := zN_of hn h0
  refine zFG.start RX3 cX3_openSize 3 (some .int) rfl rfl (by decide +kernel) (Nat.le_of_ble_eq_true rfl) ?_
  intro p e s m ar below meth c ls A Q hx hb hr hml hown hts hlocks hK hE hA hQ hl hw
  have hl : lv_has ls 3 [(0, .ref (t 0))] := hl
  have hw : zHw x A s.heap (zTW x t S lk) s.heap [] := hw
  refine lv_iconst (v := 0) hx hb dX3_openSize_0 (by decide) ?_
  refine lv_istore_n (lv' := [(1, .int 0), (0, .ref (t 0))]) hx hb dX3_openSize_1 rfl hl (by decide) rfl (fun ls hl => ?_)
  refine lv_iconst (v := 0) hx hb dX3_openSize_2 (by decide) ?_
  refine lv_istore_n (lv' := [(2, .int 0), (1, .int 0), (0, .ref (t 0))]) hx hb dX3_openSize_3 rfl hl (by decide) rfl (fun ls hl => ?_)
  have loop4 : ∀ (dd : Nat) (k : Nat), n - k < dd → (hk : k ≤ n) → ∀ (H : Heap) (locs : List Loc) (ls : Array Slot), zHw x A s.heap (zTW x t S lk) H locs → lv_has ls 3 [(0, .ref (t 0)), (1, .int (zSu (zopn S) (S 5) k)), (2, .int (nI k))] → W p x.1 e (zRM 0) s m ar below meth c H locs 0 0 Q (F0 m 4 ls []) := by
    intro dd
    induction dd with
    | zero => intro k hm; exact absurd hm (Nat.not_lt_zero _)
    | succ dd ih4 =>
      intro k hm hk H locs ls hw hl
      refine lv_iload_n hx hb dX3_openSize_4 rfl (lv_at hl 2 rfl) ?_
      refine lv_aload_n hx hb dX3_openSize_5 rfl (lv_at hl 0 rfl) ?_
      refine gfX3_40 hx hb hown hts hK hw 0 rfl rfl dX3_openSize_6 ?_
      refine lv_icmp_ge (tgt := 36) hx hb dX3_openSize_9 (by decide) (fun c9 => ?_) (fun c9 => ?_)
      · have hke : k = n := zke h0 (by omega) hk c9
        refine lv_iload_n hx hb dX3_openSize_36 rfl (lv_at hl 1 rfl) ?_
        exact zFG.iret hx hb hr hlocks hQ hw rfl dX3_openSize_37 ⟨zsi (by rw [hN, ← hke]), rfl⟩
      · have hkn : k < n := zkn h0 (by omega) hk c9
        refine lv_aload_n hx hb dX3_openSize_12 rfl (lv_at hl 0 rfl) ?_
        refine gfX3_52 hx hb hown hts hK hw 0 rfl rfl dX3_openSize_13 ?_
        refine lv_iload_n hx hb dX3_openSize_16 rfl (lv_at hl 2 rfl) ?_
        refine zial hx hb hK hw 6 0 k rfl rfl rfl (by omega) (by decide) dX3_openSize_17 ?_
        refine lv_if_ne (tgt := 30) hx hb dX3_openSize_18 (by decide) (fun c18 => ?_) (fun c18 => ?_)
        · have hl : lv_has ls 3 [(0, .ref (t 0)), (1, .int (zSu (zopn S) (S 5) (k + 1))), (2, .int (nI k))] := by
            rw [show zSu (zopn S) (S 5) (k + 1) = zSu (zopn S) (S 5) k from (by simp [zSu, zopn, c9, c18])]; exact hl
          refine lv_iinc (v := nI (k + 1)) (lv' := [(2, .int (nI (k + 1))), (0, .ref (t 0)), (1, .int (zSu (zopn S) (S 5) (k + 1)))]) hx hb dX3_openSize_30 hl (k := 2) rfl (nI_1 k) (by decide) rfl (fun ls hl => ?_)
          refine lv_goto (tgt := 4) hx hb dX3_openSize_33 (by decide) ?_
          exact ih4 (k + 1) (by omega) (by omega) _ _ _ hw (lv_sub hl [1, 2, 0] rfl)
        · refine lv_iload_n hx hb dX3_openSize_21 rfl (lv_at hl 1 rfl) ?_
          refine lv_aload_n hx hb dX3_openSize_22 rfl (lv_at hl 0 rfl) ?_
          refine gfX3_49 hx hb hown hts hK hw 0 rfl rfl dX3_openSize_23 ?_
          refine lv_iload_n hx hb dX3_openSize_26 rfl (lv_at hl 2 rfl) ?_
          refine zial hx hb hK hw 5 0 k rfl rfl rfl (by omega) (by decide) dX3_openSize_27 ?_
          refine lv_iadd hx hb dX3_openSize_28 ?_
          refine lv_istore_n (lv' := [(1, .int ((zSu (zopn S) (S 5) k) + ((S 5) k))), (0, .ref (t 0)), (2, .int (nI k))]) hx hb dX3_openSize_29 rfl hl (by decide) rfl (fun ls hl => ?_)
          have hl : lv_has ls 3 [(1, .int (zSu (zopn S) (S 5) (k + 1))), (0, .ref (t 0)), (2, .int (nI k))] := by
            rw [show zSu (zopn S) (S 5) (k + 1) = (zSu (zopn S) (S 5) k) + ((S 5) k) from (by simp [zSu, zopn, c9, c18])]; exact hl
          refine lv_iinc (v := nI (k + 1)) (lv' := [(2, .int (nI (k + 1))), (1, .int (zSu (zopn S) (S 5) (k + 1))), (0, .ref (t 0))]) hx hb dX3_openSize_30 hl (k := 2) rfl (nI_1 k) (by decide) rfl (fun ls hl => ?_)
          refine lv_goto (tgt := 4) hx hb dX3_openSize_33 (by decide) ?_
          exact ih4 (k + 1) (by omega) (by omega) _ _ _ hw (lv_sub hl [2, 1, 0] rfl)
  exact loop4 (_ + 1) 0 (Nat.lt_succ_self _) (Nat.zero_le _) _ _ _ hw (lv_sub hl [2, 1, 0] rfl)

set_option maxHeartbeats 4000000 in
set_option maxRecDepth 100000 in
theorem c_X3_openSizeOf (x : zX) (t : Nat → Nat) (S : zT) (lk : Int32) (v : Int32) (hI : zInv S) : zFF x mX3_openSizeOf 0 [.ref (t 0), .int v] (zTW x t S lk) (some (.int (zSu (fun h => zopn S h && decide (S 4 h = v)) (S 5) (zN S)))) (zTW x t S lk) := by
  obtain ⟨n, hn, h0⟩ := hI.holes
  have hN : zN S = n := zN_of hn h0
  refine zFG.start RX3 cX3_openSizeOf 4 (some .int) rfl rfl (by decide +kernel) (Nat.le_of_ble_eq_true rfl) ?_
  intro p e s m ar below meth c ls A Q hx hb hr hml hown hts hlocks hK hE hA hQ hl hw
  have hl : lv_has ls 4 [(0, .ref (t 0)), (1, .int v)] := hl
  have hw : zHw x A s.heap (zTW x t S lk) s.heap [] := hw
  refine lv_iconst (v := 0) hx hb dX3_openSizeOf_0 (by decide) ?_
  refine lv_istore_n (lv' := [(2, .int 0), (0, .ref (t 0)), (1, .int v)]) hx hb dX3_openSizeOf_1 rfl hl (by decide) rfl (fun ls hl => ?_)
  refine lv_iconst (v := 0) hx hb dX3_openSizeOf_2 (by decide) ?_
  refine lv_istore_n (lv' := [(3, .int 0), (2, .int 0), (0, .ref (t 0)), (1, .int v)]) hx hb dX3_openSizeOf_3 rfl hl (by decide) rfl (fun ls hl => ?_)
  have loop4 : ∀ (dd : Nat) (k : Nat), n - k < dd → (hk : k ≤ n) → ∀ (H : Heap) (locs : List Loc) (ls : Array Slot), zHw x A s.heap (zTW x t S lk) H locs → lv_has ls 4 [(0, .ref (t 0)), (1, .int v), (2, .int (zSu (fun h => zopn S h && decide (S 4 h = v)) (S 5) k)), (3, .int (nI k))] → W p x.1 e (zRM 0) s m ar below meth c H locs 0 0 Q (F0 m 4 ls []) := by
    intro dd
    induction dd with
    | zero => intro k hm; exact absurd hm (Nat.not_lt_zero _)
    | succ dd ih4 =>
      intro k hm hk H locs ls hw hl
      refine lv_iload_n hx hb dX3_openSizeOf_4 rfl (lv_at hl 3 rfl) ?_
      refine lv_aload_n hx hb dX3_openSizeOf_5 rfl (lv_at hl 0 rfl) ?_
      refine gfX3_40 hx hb hown hts hK hw 0 rfl rfl dX3_openSizeOf_6 ?_
      refine lv_icmp_ge (tgt := 46) hx hb dX3_openSizeOf_9 (by decide) (fun c9 => ?_) (fun c9 => ?_)
      · have hke : k = n := zke h0 (by omega) hk c9
        refine lv_iload_n hx hb dX3_openSizeOf_46 rfl (lv_at hl 2 rfl) ?_
        exact zFG.iret hx hb hr hlocks hQ hw rfl dX3_openSizeOf_47 ⟨zsi (by rw [hN, ← hke]), rfl⟩
      · have hkn : k < n := zkn h0 (by omega) hk c9
        refine lv_aload_n hx hb dX3_openSizeOf_12 rfl (lv_at hl 0 rfl) ?_
        refine gfX3_52 hx hb hown hts hK hw 0 rfl rfl dX3_openSizeOf_13 ?_
        refine lv_iload_n hx hb dX3_openSizeOf_16 rfl (lv_at hl 3 rfl) ?_
        refine zial hx hb hK hw 6 0 k rfl rfl rfl (by omega) (by decide) dX3_openSizeOf_17 ?_
        refine lv_if_ne (tgt := 40) hx hb dX3_openSizeOf_18 (by decide) (fun c18 => ?_) (fun c18 => ?_)
        · have hl : lv_has ls 4 [(0, .ref (t 0)), (1, .int v), (2, .int (zSu (fun h => zopn S h && decide (S 4 h = v)) (S 5) (k + 1))), (3, .int (nI k))] := by
            rw [show zSu (fun h => zopn S h && decide (S 4 h = v)) (S 5) (k + 1) = zSu (fun h => zopn S h && decide (S 4 h = v)) (S 5) k from (by simp [zSu, zopn, c9, c18])]; exact hl
          refine lv_iinc (v := nI (k + 1)) (lv' := [(3, .int (nI (k + 1))), (0, .ref (t 0)), (1, .int v), (2, .int (zSu (fun h => zopn S h && decide (S 4 h = v)) (S 5) (k + 1)))]) hx hb dX3_openSizeOf_40 hl (k := 3) rfl (nI_1 k) (by decide) rfl (fun ls hl => ?_)
          refine lv_goto (tgt := 4) hx hb dX3_openSizeOf_43 (by decide) ?_
          exact ih4 (k + 1) (by omega) (by omega) _ _ _ hw (lv_sub hl [1, 2, 3, 0] rfl)
        · refine lv_aload_n hx hb dX3_openSizeOf_21 rfl (lv_at hl 0 rfl) ?_
          refine gfX3_46 hx hb hown hts hK hw 0 rfl rfl dX3_openSizeOf_22 ?_
          refine lv_iload_n hx hb dX3_openSizeOf_25 rfl (lv_at hl 3 rfl) ?_
          refine zial hx hb hK hw 4 0 k rfl rfl rfl (by omega) (by decide) dX3_openSizeOf_26 ?_
          refine lv_iload_n hx hb dX3_openSizeOf_27 rfl (lv_at hl 1 rfl) ?_
          refine lv_icmp_ne (tgt := 40) hx hb dX3_openSizeOf_28 (by decide) (fun c28 => ?_) (fun c28 => ?_)
          · have hl : lv_has ls 4 [(0, .ref (t 0)), (1, .int v), (2, .int (zSu (fun h => zopn S h && decide (S 4 h = v)) (S 5) (k + 1))), (3, .int (nI k))] := by
              rw [show zSu (fun h => zopn S h && decide (S 4 h = v)) (S 5) (k + 1) = zSu (fun h => zopn S h && decide (S 4 h = v)) (S 5) k from (by simp [zSu, zopn, c9, c18, c28])]; exact hl
            refine lv_iinc (v := nI (k + 1)) (lv' := [(3, .int (nI (k + 1))), (0, .ref (t 0)), (1, .int v), (2, .int (zSu (fun h => zopn S h && decide (S 4 h = v)) (S 5) (k + 1)))]) hx hb dX3_openSizeOf_40 hl (k := 3) rfl (nI_1 k) (by decide) rfl (fun ls hl => ?_)
            refine lv_goto (tgt := 4) hx hb dX3_openSizeOf_43 (by decide) ?_
            exact ih4 (k + 1) (by omega) (by omega) _ _ _ hw (lv_sub hl [1, 2, 3, 0] rfl)
          · refine lv_iload_n hx hb dX3_openSizeOf_31 rfl (lv_at hl 2 rfl) ?_
            refine lv_aload_n hx hb dX3_openSizeOf_32 rfl (lv_at hl 0 rfl) ?_
            refine gfX3_49 hx hb hown hts hK hw 0 rfl rfl dX3_openSizeOf_33 ?_
            refine lv_iload_n hx hb dX3_openSizeOf_36 rfl (lv_at hl 3 rfl) ?_
            refine zial hx hb hK hw 5 0 k rfl rfl rfl (by omega) (by decide) dX3_openSizeOf_37 ?_
            refine lv_iadd hx hb dX3_openSizeOf_38 ?_
            refine lv_istore_n (lv' := [(2, .int ((zSu (fun h => zopn S h && decide (S 4 h = v)) (S 5) k) + ((S 5) k))), (0, .ref (t 0)), (1, .int v), (3, .int (nI k))]) hx hb dX3_openSizeOf_39 rfl hl (by decide) rfl (fun ls hl => ?_)
            have hl : lv_has ls 4 [(2, .int (zSu (fun h => zopn S h && decide (S 4 h = v)) (S 5) (k + 1))), (0, .ref (t 0)), (1, .int v), (3, .int (nI k))] := by
              rw [show zSu (fun h => zopn S h && decide (S 4 h = v)) (S 5) (k + 1) = (zSu (fun h => zopn S h && decide (S 4 h = v)) (S 5) k) + ((S 5) k) from (by simp [zSu, zopn, c9, c18, c28])]; exact hl
            refine lv_iinc (v := nI (k + 1)) (lv' := [(3, .int (nI (k + 1))), (2, .int (zSu (fun h => zopn S h && decide (S 4 h = v)) (S 5) (k + 1))), (0, .ref (t 0)), (1, .int v)]) hx hb dX3_openSizeOf_40 hl (k := 3) rfl (nI_1 k) (by decide) rfl (fun ls hl => ?_)
            refine lv_goto (tgt := 4) hx hb dX3_openSizeOf_43 (by decide) ?_
            exact ih4 (k + 1) (by omega) (by omega) _ _ _ hw (lv_sub hl [2, 3, 1, 0] rfl)
  exact loop4 (_ + 1) 0 (Nat.lt_succ_self _) (Nat.zero_le _) _ _ _ hw (lv_sub hl [2, 3, 1, 0] rfl)
