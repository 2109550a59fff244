set_option maxHeartbeats 4000000 in
set_option maxRecDepth 100000 in
theorem c_bitCount (x : zX) (w : va_W) (d : Nat) (hd : d < 256) : zFF x mJ6_bitCount_0f7a4 0 [.int (nI d)] (w) (some (.int (nI (zpc d)))) (w) := by
  refine zFG.start RJ6 cJ6_bitCount_0f7a4 1 (some .int) rfl rfl (by decide +kernel) (Nat.le_of_ble_eq_true rfl) ?_
  intro p e s m ar below meth c ls A Q hx hb hr hml hown hts hlocks hK hE hA hQ hl hw
  have hl : lv_has ls 1 [(0, .int (nI d))] := hl
  have hw : zHw x A s.heap (w) s.heap [] := hw
  refine lv_iload_n hx hb dJ6_bitCount_0f7a4_0 rfl (lv_at hl 0 rfl) ?_
  refine lv_iload_n hx hb dJ6_bitCount_0f7a4_1 rfl (lv_at hl 0 rfl) ?_
  refine lv_iconst (v := 1) hx hb dJ6_bitCount_0f7a4_2 (by decide) ?_
  refine lv_iushr hx hb dJ6_bitCount_0f7a4_3 rfl ?_
  refine lv_ldcw (v := 1431655765) hx hb hown (hts _ ckJ6_265) dJ6_bitCount_0f7a4_4 ?_
  refine lv_iand hx hb dJ6_bitCount_0f7a4_7 ?_
  refine lv_isub hx hb dJ6_bitCount_0f7a4_8 ?_
  refine lv_istore_n (lv' := [(0, .int ((nI d) - ((((nI d).toUInt32 >>> ((1 : Int32).toUInt32 &&& Int32.toUInt32 31)).toInt32) &&& 1431655765)))]) hx hb dJ6_bitCount_0f7a4_9 rfl hl (by decide) rfl (fun ls hl => ?_)
  have hl : lv_has ls 1 [(0, .int (zk1 (nI d)))] := by
    rw [show zk1 (nI d) = (nI d) - ((((nI d).toUInt32 >>> ((1 : Int32).toUInt32 &&& Int32.toUInt32 31)).toInt32) &&& 1431655765) from rfl]; exact hl
  refine lv_iload_n hx hb dJ6_bitCount_0f7a4_10 rfl (lv_at hl 0 rfl) ?_
  refine lv_ldcw (v := 858993459) hx hb hown (hts _ ckJ6_266) dJ6_bitCount_0f7a4_11 ?_
  refine lv_iand hx hb dJ6_bitCount_0f7a4_14 ?_
  refine lv_iload_n hx hb dJ6_bitCount_0f7a4_15 rfl (lv_at hl 0 rfl) ?_
  refine lv_iconst (v := 2) hx hb dJ6_bitCount_0f7a4_16 (by decide) ?_
  refine lv_iushr hx hb dJ6_bitCount_0f7a4_17 rfl ?_
  refine lv_ldcw (v := 858993459) hx hb hown (hts _ ckJ6_266) dJ6_bitCount_0f7a4_18 ?_
  refine lv_iand hx hb dJ6_bitCount_0f7a4_21 ?_
  refine lv_iadd hx hb dJ6_bitCount_0f7a4_22 ?_
  refine lv_istore_n (lv' := [(0, .int (((zk1 (nI d)) &&& 858993459) + ((((zk1 (nI d)).toUInt32 >>> ((2 : Int32).toUInt32 &&& Int32.toUInt32 31)).toInt32) &&& 858993459)))]) hx hb dJ6_bitCount_0f7a4_23 rfl hl (by decide) rfl (fun ls hl => ?_)
  have hl : lv_has ls 1 [(0, .int (zk2 (zk1 (nI d))))] := by
    rw [show zk2 (zk1 (nI d)) = ((zk1 (nI d)) &&& 858993459) + ((((zk1 (nI d)).toUInt32 >>> ((2 : Int32).toUInt32 &&& Int32.toUInt32 31)).toInt32) &&& 858993459) from rfl]; exact hl
  refine lv_iload_n hx hb dJ6_bitCount_0f7a4_24 rfl (lv_at hl 0 rfl) ?_
  refine lv_iload_n hx hb dJ6_bitCount_0f7a4_25 rfl (lv_at hl 0 rfl) ?_
  refine lv_iconst (v := 4) hx hb dJ6_bitCount_0f7a4_26 (by decide) ?_
  refine lv_iushr hx hb dJ6_bitCount_0f7a4_27 rfl ?_
  refine lv_iadd hx hb dJ6_bitCount_0f7a4_28 ?_
  refine lv_ldcw (v := 252645135) hx hb hown (hts _ ckJ6_267) dJ6_bitCount_0f7a4_29 ?_
  refine lv_iand hx hb dJ6_bitCount_0f7a4_32 ?_
  refine lv_istore_n (lv' := [(0, .int (((zk2 (zk1 (nI d))) + (((zk2 (zk1 (nI d))).toUInt32 >>> ((4 : Int32).toUInt32 &&& Int32.toUInt32 31)).toInt32)) &&& 252645135))]) hx hb dJ6_bitCount_0f7a4_33 rfl hl (by decide) rfl (fun ls hl => ?_)
  have hl : lv_has ls 1 [(0, .int (zk3 (zk2 (zk1 (nI d)))))] := by
    rw [show zk3 (zk2 (zk1 (nI d))) = ((zk2 (zk1 (nI d))) + (((zk2 (zk1 (nI d))).toUInt32 >>> ((4 : Int32).toUInt32 &&& Int32.toUInt32 31)).toInt32)) &&& 252645135 from rfl]; exact hl
  refine lv_iload_n hx hb dJ6_bitCount_0f7a4_34 rfl (lv_at hl 0 rfl) ?_
  refine lv_iload_n hx hb dJ6_bitCount_0f7a4_35 rfl (lv_at hl 0 rfl) ?_
  refine lv_bipush (v := 8) hx hb dJ6_bitCount_0f7a4_36 (by decide) ?_
  refine lv_iushr hx hb dJ6_bitCount_0f7a4_38 rfl ?_
  refine lv_iadd hx hb dJ6_bitCount_0f7a4_39 ?_
  refine lv_istore_n (lv' := [(0, .int ((zk3 (zk2 (zk1 (nI d)))) + (((zk3 (zk2 (zk1 (nI d)))).toUInt32 >>> ((8 : Int32).toUInt32 &&& Int32.toUInt32 31)).toInt32)))]) hx hb dJ6_bitCount_0f7a4_40 rfl hl (by decide) rfl (fun ls hl => ?_)
  have hl : lv_has ls 1 [(0, .int (zk4 (zk3 (zk2 (zk1 (nI d))))))] := by
    rw [show zk4 (zk3 (zk2 (zk1 (nI d)))) = (zk3 (zk2 (zk1 (nI d)))) + (((zk3 (zk2 (zk1 (nI d)))).toUInt32 >>> ((8 : Int32).toUInt32 &&& Int32.toUInt32 31)).toInt32) from rfl]; exact hl
  refine lv_iload_n hx hb dJ6_bitCount_0f7a4_41 rfl (lv_at hl 0 rfl) ?_
  refine lv_iload_n hx hb dJ6_bitCount_0f7a4_42 rfl (lv_at hl 0 rfl) ?_
  refine lv_bipush (v := 16) hx hb dJ6_bitCount_0f7a4_43 (by decide) ?_
  refine lv_iushr hx hb dJ6_bitCount_0f7a4_45 rfl ?_
  refine lv_iadd hx hb dJ6_bitCount_0f7a4_46 ?_
  refine lv_istore_n (lv' := [(0, .int ((zk4 (zk3 (zk2 (zk1 (nI d))))) + (((zk4 (zk3 (zk2 (zk1 (nI d))))).toUInt32 >>> ((16 : Int32).toUInt32 &&& Int32.toUInt32 31)).toInt32)))]) hx hb dJ6_bitCount_0f7a4_47 rfl hl (by decide) rfl (fun ls hl => ?_)
  have hl : lv_has ls 1 [(0, .int (zk5 (zk4 (zk3 (zk2 (zk1 (nI d)))))))] := by
    rw [show zk5 (zk4 (zk3 (zk2 (zk1 (nI d))))) = (zk4 (zk3 (zk2 (zk1 (nI d))))) + (((zk4 (zk3 (zk2 (zk1 (nI d))))).toUInt32 >>> ((16 : Int32).toUInt32 &&& Int32.toUInt32 31)).toInt32) from rfl]; exact hl
  refine lv_iload_n hx hb dJ6_bitCount_0f7a4_48 rfl (lv_at hl 0 rfl) ?_
  refine lv_bipush (v := 63) hx hb dJ6_bitCount_0f7a4_49 (by decide) ?_
  refine lv_iand hx hb dJ6_bitCount_0f7a4_51 ?_
  exact zFG.iret hx hb hr hlocks hQ hw rfl dJ6_bitCount_0f7a4_52 ⟨zsi (zbc d hd), rfl⟩

set_option maxHeartbeats 4000000 in
set_option maxRecDepth 100000 in
theorem c_X5_image (x : zX) (b : Nat → Nat) (t : Nat → Nat → Nat) (S : zT) (l0 : Int32) (T : zT) (l1 : Int32) (K : zT) (l2 ik : Int32) (fd tb tq bo so : Nat → Int32) (nn : Nat → Nat → Int64) : zFF x mX5_image 2 [.ref (b 0)] (zHW x b t S l0 T l1 K l2 ik fd tb tq bo so nn) (some (.int 1)) (zHW x b t S l0 T l1 S 1000 1 fd tb tq bo so nn) := by
  refine zFG.start RX5 cX5_image 1 (some .int) rfl rfl (by decide +kernel) (Nat.le_of_ble_eq_true rfl) ?_
  intro p e s m ar below meth c ls A Q hx hb hr hml hown hts hlocks hK hE hA hQ hl hw
  have hl : lv_has ls 1 [(0, .ref (b 0))] := hl
  have hw : zHw x A s.heap (zHW x b t S l0 T l1 K l2 ik fd tb tq bo so nn) s.heap [] := hw
  refine lv_aload_n hx hb dX5_image_0 rfl (lv_at hl 0 rfl) ?_
  refine gfX5_19 hx hb hown hts hK hw 0 rfl rfl dX5_image_1 ?_
  refine lv_aload_n hx hb dX5_image_4 rfl (lv_at hl 0 rfl) ?_
  refine gfX5_10 hx hb hown hts hK hw 0 rfl rfl dX5_image_5 ?_
  have hw := hw.pick (ws' := zOW x b t ik fd ++ ((zTW x (t 2) K l2 ++ zTW x (t 0) S l0) ++ (zTW x (t 1) T l1 ++ (zPW x b tb tq ++ (zSH x (b 5) (b 9) (bo 0) (so 0) (nn 0) ++ (zSH x (b 6) (b 10) (bo 1) (so 1) (nn 1) ++ (zSH x (b 7) (b 11) (bo 2) (so 2) (nn 2) ++ zSH x (b 8) (b 12) (bo 3) (so 3) (nn 3)))))))) [0, 1, 2, 21, 22, 23, 24, 25, 26, 27, 28, 29, 3, 4, 5, 6, 7, 8, 9, 10, 11, 12, 13, 14, 15, 16, 17, 18, 19, 20, 30, 31, 32, 33, 34, 35, 36, 37, 38, 39] (by decide) rfl
  refine zcVmv (C1 := (zOW x b t ik fd)) (C2 := (zTW x (t 1) T l1 ++ (zPW x b tb tq ++ (zSH x (b 5) (b 9) (bo 0) (so 0) (nn 0) ++ (zSH x (b 6) (b 10) (bo 1) (so 1) (nn 1) ++ (zSH x (b 7) (b 11) (bo 2) (so 2) (nn 2) ++ zSH x (b 8) (b 12) (bo 3) (so 3) (nn 3))))))) hx hb hml hown hts hl.1 hK hE hA lkX5_215 (c_X3_become x (t 2) (t 0) K S l2 l0) ⟨Nat.le_of_ble_eq_true rfl, Nat.le_of_ble_eq_true rfl⟩ ⟨Nat.zero_le _, Nat.zero_le _⟩ hw 0 2 rfl rfl rfl rfl (Nat.le_of_ble_eq_true rfl) dX5_image_8 (fun H locs hw => ?_)
  have hw : zHw x A s.heap (zHW x b t S l0 T l1 S 1000 ik fd tb tq bo so nn) H locs := hw.pick [0, 1, 2, 12, 13, 14, 15, 16, 17, 18, 19, 20, 21, 22, 23, 24, 25, 26, 27, 28, 29, 3, 4, 5, 6, 7, 8, 9, 10, 11, 30, 31, 32, 33, 34, 35, 36, 37, 38, 39] (by decide) rfl
  refine lv_aload_n hx hb dX5_image_11 rfl (lv_at hl 0 rfl) ?_
  refine lv_iconst (v := 1) hx hb dX5_image_12 (by decide) ?_
  refine pfX5_22 hx hb hown hts hK hw 0 rfl (Nat.le_of_ble_eq_true rfl) ⟨by decide, by decide⟩ dX5_image_13 (fun H locs hw => ?_)
  have hw : zHw x A s.heap (zHW x b t S l0 T l1 S 1000 1 fd tb tq bo so nn) H locs := hw
  refine lv_iconst (v := 1) hx hb dX5_image_16 (by decide) ?_
  exact zFG.iret hx hb hr hlocks hQ hw rfl dX5_image_17 ⟨rfl, rfl⟩

set_option maxHeartbeats 4000000 in
set_option maxRecDepth 100000 in
theorem c_X5_undo_1 (x : zX) (b : Nat → Nat) (t : Nat → Nat → Nat) (S : zT) (l0 : Int32) (T : zT) (l1 : Int32) (K : zT) (l2 ik : Int32) (fd tb tq bo so : Nat → Int32) (nn : Nat → Nat → Int64) (hk : ¬ ik = 0) : zFF x mX5_undo 2 [.ref (b 0)] (zHW x b t S l0 T l1 K l2 ik fd tb tq bo so nn) (some (.int (K 0 0))) (zHW x b t K 1000 T l1 K l2 ik fd tb tq bo so nn) := by
  refine zFG.start RX5 cX5_undo 1 (some .int) rfl rfl (by decide +kernel) (Nat.le_of_ble_eq_true rfl) ?_
  intro p e s m ar below meth c ls A Q hx hb hr hml hown hts hlocks hK hE hA hQ hl hw
  have hl : lv_has ls 1 [(0, .ref (b 0))] := hl
  have hw : zHw x A s.heap (zHW x b t S l0 T l1 K l2 ik fd tb tq bo so nn) s.heap [] := hw
  refine lv_aload_n hx hb dX5_undo_0 rfl (lv_at hl 0 rfl) ?_
  refine gfX5_22 hx hb hown hts hK hw 0 rfl rfl dX5_undo_1 ?_
  refine lv_if_ne (tgt := 14) hx hb dX5_undo_4 (by decide) (fun c4 => ?_) (fun c4 => absurd c4 (hk))
  refine lv_aload_n hx hb dX5_undo_14 rfl (lv_at hl 0 rfl) ?_
  refine gfX5_10 hx hb hown hts hK hw 0 rfl rfl dX5_undo_15 ?_
  refine lv_aload_n hx hb dX5_undo_18 rfl (lv_at hl 0 rfl) ?_
  refine gfX5_19 hx hb hown hts hK hw 0 rfl rfl dX5_undo_19 ?_
  have hw := hw.pick (ws' := zOW x b t ik fd ++ ((zTW x (t 0) S l0 ++ zTW x (t 2) K l2) ++ (zTW x (t 1) T l1 ++ (zPW x b tb tq ++ (zSH x (b 5) (b 9) (bo 0) (so 0) (nn 0) ++ (zSH x (b 6) (b 10) (bo 1) (so 1) (nn 1) ++ (zSH x (b 7) (b 11) (bo 2) (so 2) (nn 2) ++ zSH x (b 8) (b 12) (bo 3) (so 3) (nn 3)))))))) [0, 1, 2, 3, 4, 5, 6, 7, 8, 9, 10, 11, 21, 22, 23, 24, 25, 26, 27, 28, 29, 12, 13, 14, 15, 16, 17, 18, 19, 20, 30, 31, 32, 33, 34, 35, 36, 37, 38, 39] (by decide) rfl
  refine zcVmv (C1 := (zOW x b t ik fd)) (C2 := (zTW x (t 1) T l1 ++ (zPW x b tb tq ++ (zSH x (b 5) (b 9) (bo 0) (so 0) (nn 0) ++ (zSH x (b 6) (b 10) (bo 1) (so 1) (nn 1) ++ (zSH x (b 7) (b 11) (bo 2) (so 2) (nn 2) ++ zSH x (b 8) (b 12) (bo 3) (so 3) (nn 3))))))) hx hb hml hown hts hl.1 hK hE hA lkX5_215 (c_X3_become x (t 0) (t 2) S K l0 l2) ⟨Nat.le_of_ble_eq_true rfl, Nat.le_of_ble_eq_true rfl⟩ ⟨Nat.zero_le _, Nat.zero_le _⟩ hw 0 2 rfl rfl rfl rfl (Nat.le_of_ble_eq_true rfl) dX5_undo_22 (fun H locs hw => ?_)
  have hw : zHw x A s.heap (zHW x b t K 1000 T l1 K l2 ik fd tb tq bo so nn) H locs := hw.pick [0, 1, 2, 3, 4, 5, 6, 7, 8, 9, 10, 11, 21, 22, 23, 24, 25, 26, 27, 28, 29, 12, 13, 14, 15, 16, 17, 18, 19, 20, 30, 31, 32, 33, 34, 35, 36, 37, 38, 39] (by decide) rfl
  refine lv_aload_n hx hb dX5_undo_25 rfl (lv_at hl 0 rfl) ?_
  refine gfX5_10 hx hb hown hts hK hw 0 rfl rfl dX5_undo_26 ?_
  refine gfX5_179 hx hb hown hts hK hw 3 rfl rfl dX5_undo_29 ?_
  exact zFG.iret hx hb hr hlocks hQ hw rfl dX5_undo_32 ⟨rfl, rfl⟩

set_option maxHeartbeats 4000000 in
set_option maxRecDepth 100000 in
theorem c_X5_undo_0 (x : zX) (b : Nat → Nat) (t : Nat → Nat → Nat) (S : zT) (l0 : Int32) (T : zT) (l1 : Int32) (K : zT) (l2 ik : Int32) (fd tb tq bo so : Nat → Int32) (nn : Nat → Nat → Int64) (hk : ik = 0) : zFF x mX5_undo 2 [.ref (b 0)] (zHW x b t S l0 T l1 K l2 ik fd tb tq bo so nn) (some (.int (-1000000004))) (zHW x b t S l0 T l1 K l2 ik (zFd fd 3) tb tq bo so nn) := by
  refine zFG.start RX5 cX5_undo 1 (some .int) rfl rfl (by decide +kernel) (Nat.le_of_ble_eq_true rfl) ?_
  intro p e s m ar below meth c ls A Q hx hb hr hml hown hts hlocks hK hE hA hQ hl hw
  have hl : lv_has ls 1 [(0, .ref (b 0))] := hl
  have hw : zHw x A s.heap (zHW x b t S l0 T l1 K l2 ik fd tb tq bo so nn) s.heap [] := hw
  refine lv_aload_n hx hb dX5_undo_0 rfl (lv_at hl 0 rfl) ?_
  refine gfX5_22 hx hb hown hts hK hw 0 rfl rfl dX5_undo_1 ?_
  refine lv_if_ne (tgt := 14) hx hb dX5_undo_4 (by decide) (fun c4 => absurd c4 (fun h => h hk)) (fun c4 => ?_)
  refine lv_aload_n hx hb dX5_undo_7 rfl (lv_at hl 0 rfl) ?_
  refine lv_ldc (v := (-1000000004)) hx hb hown (hts _ ckX5_142) dX5_undo_8 ?_
  refine zcVwi (r := (-1000000004)) hx hb hml hown hts hl.1 hK hE hA lkX5_52 (c_X5_found x b t S l0 T l1 K l2 ik fd tb tq bo so nn (-1000000004) 3 (by decide) (by decide)) ⟨Nat.le_of_ble_eq_true rfl, Nat.le_of_ble_eq_true rfl⟩ ⟨Nat.zero_le _, Nat.zero_le _⟩ hw 0 3 rfl rfl rfl rfl (Nat.le_of_ble_eq_true rfl) dX5_undo_10 (fun H locs hw => ?_)
  have hw : zHw x A s.heap (zHW x b t S l0 T l1 K l2 ik (upd fd 3 (fd 3 + 1)) tb tq bo so nn) H locs := hw
  exact zFG.iret hx hb hr hlocks hQ hw rfl dX5_undo_13 ⟨rfl, rfl⟩

set_option maxHeartbeats 4000000 in
set_option maxRecDepth 100000 in
theorem c_X5_tear_0 (x : zX) (b : Nat → Nat) (t : Nat → Nat → Nat) (S : zT) (l0 : Int32) (T : zT) (l1 : Int32) (K : zT) (l2 ik : Int32) (fd tb tq bo so : Nat → Int32) (nn : Nat → Nat → Int64) (hk : ik = 0) : zFF x mX5_tear 0 [.ref (b 0)] (zHW x b t S l0 T l1 K l2 ik fd tb tq bo so nn) (some (.int 0)) (zHW x b t S l0 T l1 K l2 0 fd tb tq bo so nn) := by
  refine zFG.start RX5 cX5_tear 2 (some .int) rfl rfl (by decide +kernel) (Nat.le_of_ble_eq_true rfl) ?_
  intro p e s m ar below meth c ls A Q hx hb hr hml hown hts hlocks hK hE hA hQ hl hw
  have hl : lv_has ls 2 [(0, .ref (b 0))] := hl
  have hw : zHw x A s.heap (zHW x b t S l0 T l1 K l2 ik fd tb tq bo so nn) s.heap [] := hw
  refine lv_aload_n hx hb dX5_tear_0 rfl (lv_at hl 0 rfl) ?_
  refine gfX5_22 hx hb hown hts hK hw 0 rfl rfl dX5_tear_1 ?_
  refine lv_if_eq (tgt := 11) hx hb dX5_tear_4 (by decide) (fun c4 => ?_) (fun c4 => absurd (hk) c4)
  refine lv_iconst (v := 0) hx hb dX5_tear_11 (by decide) ?_
  refine lv_istore_n (lv' := [(1, .int 0), (0, .ref (b 0))]) hx hb dX5_tear_12 rfl hl (by decide) rfl (fun ls hl => ?_)
  refine lv_aload_n hx hb dX5_tear_13 rfl (lv_at hl 1 rfl) ?_
  refine lv_iconst (v := 0) hx hb dX5_tear_14 (by decide) ?_
  refine pfX5_22 hx hb hown hts hK hw 0 rfl (Nat.le_of_ble_eq_true rfl) ⟨by decide, by decide⟩ dX5_tear_15 (fun H locs hw => ?_)
  have hw : zHw x A s.heap (zHW x b t S l0 T l1 K l2 0 fd tb tq bo so nn) H locs := hw
  refine lv_iload_n hx hb dX5_tear_18 rfl (lv_at hl 0 rfl) ?_
  exact zFG.iret hx hb hr hlocks hQ hw rfl dX5_tear_19 ⟨rfl, rfl⟩

set_option maxHeartbeats 4000000 in
set_option maxRecDepth 100000 in
theorem c_X5_tear_1 (x : zX) (b : Nat → Nat) (t : Nat → Nat → Nat) (S : zT) (l0 : Int32) (T : zT) (l1 : Int32) (K : zT) (l2 ik : Int32) (fd tb tq bo so : Nat → Int32) (nn : Nat → Nat → Int64) (hk : ¬ ik = 0) : zFF x mX5_tear 0 [.ref (b 0)] (zHW x b t S l0 T l1 K l2 ik fd tb tq bo so nn) (some (.int 1)) (zHW x b t S l0 T l1 K l2 0 fd tb tq bo so nn) := by
  refine zFG.start RX5 cX5_tear 2 (some .int) rfl rfl (by decide +kernel) (Nat.le_of_ble_eq_true rfl) ?_
  intro p e s m ar below meth c ls A Q hx hb hr hml hown hts hlocks hK hE hA hQ hl hw
  have hl : lv_has ls 2 [(0, .ref (b 0))] := hl
  have hw : zHw x A s.heap (zHW x b t S l0 T l1 K l2 ik fd tb tq bo so nn) s.heap [] := hw
  refine lv_aload_n hx hb dX5_tear_0 rfl (lv_at hl 0 rfl) ?_
  refine gfX5_22 hx hb hown hts hK hw 0 rfl rfl dX5_tear_1 ?_
  refine lv_if_eq (tgt := 11) hx hb dX5_tear_4 (by decide) (fun c4 => absurd c4 (hk)) (fun c4 => ?_)
  refine lv_iconst (v := 1) hx hb dX5_tear_7 (by decide) ?_
  refine lv_goto (tgt := 12) hx hb dX5_tear_8 (by decide) ?_
  refine lv_istore_n (lv' := [(1, .int 1), (0, .ref (b 0))]) hx hb dX5_tear_12 rfl hl (by decide) rfl (fun ls hl => ?_)
  refine lv_aload_n hx hb dX5_tear_13 rfl (lv_at hl 1 rfl) ?_
  refine lv_iconst (v := 0) hx hb dX5_tear_14 (by decide) ?_
  refine pfX5_22 hx hb hown hts hK hw 0 rfl (Nat.le_of_ble_eq_true rfl) ⟨by decide, by decide⟩ dX5_tear_15 (fun H locs hw => ?_)
  have hw : zHw x A s.heap (zHW x b t S l0 T l1 K l2 0 fd tb tq bo so nn) H locs := hw
  refine lv_iload_n hx hb dX5_tear_18 rfl (lv_at hl 0 rfl) ?_
  exact zFG.iret hx hb hr hlocks hQ hw rfl dX5_tear_19 ⟨rfl, rfl⟩

set_option maxHeartbeats 4000000 in
set_option maxRecDepth 100000 in
theorem c_X6_image (x : zX) (a : Nat → Nat) (q : Nat → Int32) (g : zT) (nu : Nat → Nat → Int64) (f : Nat → Int32) : zFF x mX6_image 0 [.ref (a 0)] (zMW x a q g nu f) (some (.int 1)) (zMW x a (upd q 0 1) (zV g 2 f) nu f) := by
  refine zFG.start RX6 cX6_image 2 (some .int) rfl rfl (by decide +kernel) (Nat.le_of_ble_eq_true rfl) ?_
  intro p e s m ar below meth c ls A Q hx hb hr hml hown hts hlocks hK hE hA hQ hl hw
  have hl : lv_has ls 2 [(0, .ref (a 0))] := hl
  have hw : zHw x A s.heap (zMW x a q g nu f) s.heap [] := hw
  refine lv_iconst (v := 0) hx hb dX6_image_0 (by decide) ?_
  refine lv_istore_n (lv' := [(1, .int 0), (0, .ref (a 0))]) hx hb dX6_image_1 rfl hl (by decide) rfl (fun ls hl => ?_)
  have loop2 : ∀ (dd : Nat) (k : Nat), 67 - k < dd → (hk : k ≤ 67) → ∀ (H : Heap) (locs : List Loc) (ls : Array Slot), zHw x A s.heap (zMW x a q (zV g 2 (zfill f (g 2) k)) nu f) H locs → lv_has ls 2 [(0, .ref (a 0)), (1, .int (nI k))] → W p x.1 e (zRM 0) s m ar below meth c H locs 0 0 Q (F0 m 2 ls []) := by
    intro dd
    induction dd with
    | zero => intro k hm; exact absurd hm (Nat.not_lt_zero _)
    | succ dd ih2 =>
      intro k hm hk H locs ls hw hl
      refine lv_iload_n hx hb dX6_image_2 rfl (lv_at hl 1 rfl) ?_
      refine lv_bipush (v := 67) hx hb dX6_image_3 (by decide) ?_
      refine lv_icmp_ge (tgt := 26) hx hb dX6_image_5 (by decide) (fun c5 => ?_) (fun c5 => ?_)
      · have hke : k = 67 := zke (v := 67) rfl (by omega) hk c5
        subst hke
        have hw := hw.cong 2 f rfl (fun j hj => if_pos hj)
        have hw : zHw x A s.heap (zMW x a q (zV g 2 f) nu f) H locs := hw
        refine lv_aload_n hx hb dX6_image_26 rfl (lv_at hl 0 rfl) ?_
        refine lv_iconst (v := 1) hx hb dX6_image_27 (by decide) ?_
        refine pfX6_311 hx hb hown hts hK hw 0 rfl (Nat.le_of_ble_eq_true rfl) ⟨by decide, by decide⟩ dX6_image_28 (fun H locs hw => ?_)
        have hw : zHw x A s.heap (zMW x a (upd q 0 1) (zV g 2 f) nu f) H locs := hw
        refine lv_iconst (v := 1) hx hb dX6_image_31 (by decide) ?_
        exact zFG.iret hx hb hr hlocks hQ hw rfl dX6_image_32 ⟨rfl, rfl⟩
      · have hkn : k < 67 := zkn (v := 67) rfl (by omega) hk c5
        refine lv_aload_n hx hb dX6_image_8 rfl (lv_at hl 0 rfl) ?_
        refine gfX6_13 hx hb hown hts hK hw 0 rfl rfl dX6_image_9 ?_
        refine lv_iload_n hx hb dX6_image_12 rfl (lv_at hl 1 rfl) ?_
        refine lv_aload_n hx hb dX6_image_13 rfl (lv_at hl 0 rfl) ?_
        refine gfX6_7 hx hb hown hts hK hw 0 rfl rfl dX6_image_14 ?_
        refine lv_iload_n hx hb dX6_image_17 rfl (lv_at hl 1 rfl) ?_
        refine zial hx hb hK hw 1 0 k rfl rfl rfl (by omega) (by decide) dX6_image_18 ?_
        refine zias hx hb hK hw 2 0 k rfl rfl rfl (by omega) (by decide) dX6_image_19 (fun H locs hw => ?_)
        have hw : zHw x A s.heap (zMW x a q (zU (zV g 2 (zfill f (g 2) k)) 2 k (f k)) nu f) H locs := hw
        have hw : zHw x A s.heap (zMW x a q (zV g 2 (zfill f (g 2) (k + 1))) nu f) H locs := by
          rw [show zV g 2 (zfill f (g 2) (k + 1)) = zU (zV g 2 (zfill f (g 2) k)) 2 k (f k) from (by rw [zV_U, zfill_s])]; exact hw
        refine lv_iinc (v := nI (k + 1)) (lv' := [(1, .int (nI (k + 1))), (0, .ref (a 0))]) hx hb dX6_image_20 hl (k := 1) rfl (nI_1 k) (by decide) rfl (fun ls hl => ?_)
        refine lv_goto (tgt := 2) hx hb dX6_image_23 (by decide) ?_
        exact ih2 (k + 1) (by omega) (by omega) _ _ _ hw (lv_sub hl [1, 0] rfl)
  exact loop2 (_ + 1) 0 (Nat.lt_succ_self _) (Nat.zero_le _) _ _ _ (hw.re (by rw [zfill_0, zV_self])) (lv_sub hl [1, 0] rfl)

set_option maxHeartbeats 4000000 in
set_option maxRecDepth 100000 in
theorem c_X6_undo_1 (x : zX) (a : Nat → Nat) (q : Nat → Int32) (g : zT) (nu : Nat → Nat → Int64) (f : Nat → Int32) (hk : ¬ q 0 = 0) : zFF x mX6_undo 1 [.ref (a 0)] (zMW x a q g nu f) (some (.int (g 2 0))) (zMW x a q g nu (g 2)) := by
  refine zFG.start RX6 cX6_undo 2 (some .int) rfl rfl (by decide +kernel) (Nat.le_of_ble_eq_true rfl) ?_
  intro p e s m ar below meth c ls A Q hx hb hr hml hown hts hlocks hK hE hA hQ hl hw
  have hl : lv_has ls 2 [(0, .ref (a 0))] := hl
  have hw : zHw x A s.heap (zMW x a q g nu f) s.heap [] := hw
  refine lv_aload_n hx hb dX6_undo_0 rfl (lv_at hl 0 rfl) ?_
  refine gfX6_311 hx hb hown hts hK hw 0 rfl rfl dX6_undo_1 ?_
  refine lv_if_ne (tgt := 14) hx hb dX6_undo_4 (by decide) (fun c4 => ?_) (fun c4 => absurd c4 (hk))
  refine lv_iconst (v := 0) hx hb dX6_undo_14 (by decide) ?_
  refine lv_istore_n (lv' := [(1, .int 0), (0, .ref (a 0))]) hx hb dX6_undo_15 rfl hl (by decide) rfl (fun ls hl => ?_)
  have loop16 : ∀ (dd : Nat) (k : Nat), 67 - k < dd → (hj : k ≤ 67) → ∀ (H : Heap) (locs : List Loc) (ls : Array Slot), zHw x A s.heap (zMW x a q g nu (zfill (g 2) f k)) H locs → lv_has ls 2 [(0, .ref (a 0)), (1, .int (nI k))] → W p x.1 e (zRM 1) s m ar below meth c H locs 0 0 Q (F0 m 16 ls []) := by
    intro dd
    induction dd with
    | zero => intro k hm; exact absurd hm (Nat.not_lt_zero _)
    | succ dd ih16 =>
      intro k hm hj H locs ls hw hl
      refine lv_iload_n hx hb dX6_undo_16 rfl (lv_at hl 1 rfl) ?_
      refine lv_bipush (v := 67) hx hb dX6_undo_17 (by decide) ?_
      refine lv_icmp_ge (tgt := 40) hx hb dX6_undo_19 (by decide) (fun c19 => ?_) (fun c19 => ?_)
      · have hke : k = 67 := zke (v := 67) rfl (by omega) hj c19
        subst hke
        have hw := hw.cong 1 (g 2) rfl (fun j hj => if_pos hj)
        have hw : zHw x A s.heap (zMW x a q g nu (g 2)) H locs := hw
        refine lv_aload_n hx hb dX6_undo_40 rfl (lv_at hl 0 rfl) ?_
        refine gfX6_7 hx hb hown hts hK hw 0 rfl rfl dX6_undo_41 ?_
        refine lv_iconst (v := 0) hx hb dX6_undo_44 (by decide) ?_
        refine zial hx hb hK hw 1 0 0 rfl rfl rfl (by decide) (by decide) dX6_undo_45 ?_
        exact zFG.iret hx hb hr hlocks hQ hw rfl dX6_undo_46 ⟨rfl, rfl⟩
      · have hkn : k < 67 := zkn (v := 67) rfl (by omega) hj c19
        refine lv_aload_n hx hb dX6_undo_22 rfl (lv_at hl 0 rfl) ?_
        refine gfX6_7 hx hb hown hts hK hw 0 rfl rfl dX6_undo_23 ?_
        refine lv_iload_n hx hb dX6_undo_26 rfl (lv_at hl 1 rfl) ?_
        refine lv_aload_n hx hb dX6_undo_27 rfl (lv_at hl 0 rfl) ?_
        refine gfX6_13 hx hb hown hts hK hw 0 rfl rfl dX6_undo_28 ?_
        refine lv_iload_n hx hb dX6_undo_31 rfl (lv_at hl 1 rfl) ?_
        refine zial hx hb hK hw 2 0 k rfl rfl rfl (by omega) (by decide) dX6_undo_32 ?_
        refine zias hx hb hK hw 1 0 k rfl rfl rfl (by omega) (by decide) dX6_undo_33 (fun H locs hw => ?_)
        have hw : zHw x A s.heap (zMW x a q g nu (upd (zfill (g 2) f k) k ((g 2) k))) H locs := hw
        have hw : zHw x A s.heap (zMW x a q g nu (zfill (g 2) f (k + 1))) H locs := by
          rw [show zfill (g 2) f (k + 1) = upd (zfill (g 2) f k) k (g 2 k) from (zfill_s _ _ k).symm]; exact hw
        refine lv_iinc (v := nI (k + 1)) (lv' := [(1, .int (nI (k + 1))), (0, .ref (a 0))]) hx hb dX6_undo_34 hl (k := 1) rfl (nI_1 k) (by decide) rfl (fun ls hl => ?_)
        refine lv_goto (tgt := 16) hx hb dX6_undo_37 (by decide) ?_
        exact ih16 (k + 1) (by omega) (by omega) _ _ _ hw (lv_sub hl [1, 0] rfl)
  exact loop16 (_ + 1) 0 (Nat.lt_succ_self _) (Nat.zero_le _) _ _ _ (hw.re (by rw [zfill_0])) (lv_sub hl [1, 0] rfl)

set_option maxHeartbeats 4000000 in
set_option maxRecDepth 100000 in
theorem c_X6_undo_0 (x : zX) (a : Nat → Nat) (q : Nat → Int32) (g : zT) (nu : Nat → Nat → Int64) (f : Nat → Int32) (hk : q 0 = 0) : zFF x mX6_undo 1 [.ref (a 0)] (zMW x a q g nu f) (some (.int (-1000000004))) (zMW x a q (zU g 5 3 (g 5 3 + 1)) nu f) := by
  refine zFG.start RX6 cX6_undo 2 (some .int) rfl rfl (by decide +kernel) (Nat.le_of_ble_eq_true rfl) ?_
  intro p e s m ar below meth c ls A Q hx hb hr hml hown hts hlocks hK hE hA hQ hl hw
  have hl : lv_has ls 2 [(0, .ref (a 0))] := hl
  have hw : zHw x A s.heap (zMW x a q g nu f) s.heap [] := hw
  refine lv_aload_n hx hb dX6_undo_0 rfl (lv_at hl 0 rfl) ?_
  refine gfX6_311 hx hb hown hts hK hw 0 rfl rfl dX6_undo_1 ?_
  refine lv_if_ne (tgt := 14) hx hb dX6_undo_4 (by decide) (fun c4 => absurd c4 (fun h => h hk)) (fun c4 => ?_)
  refine lv_aload_n hx hb dX6_undo_7 rfl (lv_at hl 0 rfl) ?_
  refine lv_ldc (v := (-1000000004)) hx hb hown (hts _ ckX6_142) dX6_undo_8 ?_
  refine zcVwi (r := (-1000000004)) hx hb hml hown hts hl.1 hK hE hA lkX6_64 (c_X6_finds x a q g nu f (-1000000004) 3 (by decide) (by decide)) ⟨Nat.le_of_ble_eq_true rfl, Nat.le_of_ble_eq_true rfl⟩ ⟨Nat.zero_le _, Nat.zero_le _⟩ hw 0 4 rfl rfl rfl rfl (Nat.le_of_ble_eq_true rfl) dX6_undo_10 (fun H locs hw => ?_)
  have hw : zHw x A s.heap (zMW x a q (zU g 5 3 (g 5 3 + 1)) nu f) H locs := hw
  exact zFG.iret hx hb hr hlocks hQ hw rfl dX6_undo_13 ⟨rfl, rfl⟩

set_option maxHeartbeats 4000000 in
set_option maxRecDepth 100000 in
theorem c_X6_tear_0 (x : zX) (a : Nat → Nat) (q : Nat → Int32) (g : zT) (nu : Nat → Nat → Int64) (f : Nat → Int32) (hk : q 0 = 0) : zFF x mX6_tear 0 [.ref (a 0)] (zMW x a q g nu f) (some (.int 0)) (zMW x a (upd q 0 0) g nu f) := by
  refine zFG.start RX6 cX6_tear 2 (some .int) rfl rfl (by decide +kernel) (Nat.le_of_ble_eq_true rfl) ?_
  intro p e s m ar below meth c ls A Q hx hb hr hml hown hts hlocks hK hE hA hQ hl hw
  have hl : lv_has ls 2 [(0, .ref (a 0))] := hl
  have hw : zHw x A s.heap (zMW x a q g nu f) s.heap [] := hw
  refine lv_aload_n hx hb dX6_tear_0 rfl (lv_at hl 0 rfl) ?_
  refine gfX6_311 hx hb hown hts hK hw 0 rfl rfl dX6_tear_1 ?_
  refine lv_if_eq (tgt := 11) hx hb dX6_tear_4 (by decide) (fun c4 => ?_) (fun c4 => absurd (hk) c4)
  refine lv_iconst (v := 0) hx hb dX6_tear_11 (by decide) ?_
  refine lv_istore_n (lv' := [(1, .int 0), (0, .ref (a 0))]) hx hb dX6_tear_12 rfl hl (by decide) rfl (fun ls hl => ?_)
  refine lv_aload_n hx hb dX6_tear_13 rfl (lv_at hl 1 rfl) ?_
  refine lv_iconst (v := 0) hx hb dX6_tear_14 (by decide) ?_
  refine pfX6_311 hx hb hown hts hK hw 0 rfl (Nat.le_of_ble_eq_true rfl) ⟨by decide, by decide⟩ dX6_tear_15 (fun H locs hw => ?_)
  have hw : zHw x A s.heap (zMW x a (upd q 0 0) g nu f) H locs := hw
  refine lv_iload_n hx hb dX6_tear_18 rfl (lv_at hl 0 rfl) ?_
  exact zFG.iret hx hb hr hlocks hQ hw rfl dX6_tear_19 ⟨rfl, rfl⟩

set_option maxHeartbeats 4000000 in
set_option maxRecDepth 100000 in
theorem c_X6_tear_1 (x : zX) (a : Nat → Nat) (q : Nat → Int32) (g : zT) (nu : Nat → Nat → Int64) (f : Nat → Int32) (hk : ¬ q 0 = 0) : zFF x mX6_tear 0 [.ref (a 0)] (zMW x a q g nu f) (some (.int 1)) (zMW x a (upd q 0 0) g nu f) := by
  refine zFG.start RX6 cX6_tear 2 (some .int) rfl rfl (by decide +kernel) (Nat.le_of_ble_eq_true rfl) ?_
  intro p e s m ar below meth c ls A Q hx hb hr hml hown hts hlocks hK hE hA hQ hl hw
  have hl : lv_has ls 2 [(0, .ref (a 0))] := hl
  have hw : zHw x A s.heap (zMW x a q g nu f) s.heap [] := hw
  refine lv_aload_n hx hb dX6_tear_0 rfl (lv_at hl 0 rfl) ?_
  refine gfX6_311 hx hb hown hts hK hw 0 rfl rfl dX6_tear_1 ?_
  refine lv_if_eq (tgt := 11) hx hb dX6_tear_4 (by decide) (fun c4 => absurd c4 (hk)) (fun c4 => ?_)
  refine lv_iconst (v := 1) hx hb dX6_tear_7 (by decide) ?_
  refine lv_goto (tgt := 12) hx hb dX6_tear_8 (by decide) ?_
  refine lv_istore_n (lv' := [(1, .int 1), (0, .ref (a 0))]) hx hb dX6_tear_12 rfl hl (by decide) rfl (fun ls hl => ?_)
  refine lv_aload_n hx hb dX6_tear_13 rfl (lv_at hl 1 rfl) ?_
  refine lv_iconst (v := 0) hx hb dX6_tear_14 (by decide) ?_
  refine pfX6_311 hx hb hown hts hK hw 0 rfl (Nat.le_of_ble_eq_true rfl) ⟨by decide, by decide⟩ dX6_tear_15 (fun H locs hw => ?_)
  have hw : zHw x A s.heap (zMW x a (upd q 0 0) g nu f) H locs := hw
  refine lv_iload_n hx hb dX6_tear_18 rfl (lv_at hl 0 rfl) ?_
  exact zFG.iret hx hb hr hlocks hQ hw rfl dX6_tear_19 ⟨rfl, rfl⟩

set_option maxHeartbeats 4000000 in
set_option maxRecDepth 100000 in
theorem c_X5_count (x : zX) (b : Nat → Nat) (t : Nat → Nat → Nat) (S : zT) (l0 : Int32) (T : zT) (l1 : Int32) (K : zT) (l2 ik : Int32) (fd tb tq bo so : Nat → Int32) (nn : Nat → Nat → Int64) (w : Int32) (hI : zInv S) : zFG x mX5_count 1 [.ref (b 0), .int w] (zHW x b t S l0 T l1 K l2 ik fd tb tq bo so nn) (fun v' u' => v' = some (.int (zm_count S (tq 0) fd w).1) ∧ u' = zHW x b t S l0 T l1 K l2 ik (zm_count S (tq 0) fd w).2 tb tq bo so nn) := by
  refine zFG.start RX5 cX5_count 2 (some .int) rfl rfl (by decide +kernel) (Nat.le_of_ble_eq_true rfl) ?_
  intro p e s m ar below meth c ls A Q hx hb hr hml hown hts hlocks hK hE hA hQ hl hw
  have hl : lv_has ls 2 [(0, .ref (b 0)), (1, .int w)] := hl
  have hw : zHw x A s.heap (zHW x b t S l0 T l1 K l2 ik fd tb tq bo so nn) s.heap [] := hw
  refine lv_iload_n hx hb dX5_count_0 rfl (lv_at hl 1 rfl) ?_
  rcases Decidable.em (w = 0) with k0 | k0
  · refine W.eq (g2 := F0 m 1 ls (.int 0 :: [])) (by rw [k0]) ?_
    refine lv_tableIn (off := 31) (tgt := 32) hx hb dX5_count_1 (by decide) (by decide) (by decide) (by decide) ?_
    refine lv_aload_n hx hb dX5_count_32 rfl (lv_at hl 0 rfl) ?_
    refine gfX5_10 hx hb hown hts hK hw 0 rfl rfl dX5_count_33 ?_
    refine gfX5_179 hx hb hown hts hK hw 3 rfl rfl dX5_count_36 ?_
    exact zFG.iret hx hb hr hlocks hQ hw rfl dX5_count_39 (by rw [show zm_count S (tq 0) fd w = (S 0 0, fd) from (by subst k0; unfold zm_count; rw [if_pos rfl])]; exact ⟨rfl, rfl⟩)
  rcases Decidable.em (w = 1) with k1 | k1
  · refine W.eq (g2 := F0 m 1 ls (.int 1 :: [])) (by rw [k1]) ?_
    refine lv_tableIn (off := 39) (tgt := 40) hx hb dX5_count_1 (by decide) (by decide) (by decide) (by decide) ?_
    refine lv_aload_n hx hb dX5_count_40 rfl (lv_at hl 0 rfl) ?_
    refine gfX5_29 hx hb hown hts hK hw 0 rfl rfl dX5_count_41 ?_
    refine gfX5_200 hx hb hown hts hK hw 30 rfl rfl dX5_count_44 ?_
    exact zFG.iret hx hb hr hlocks hQ hw rfl dX5_count_47 (by rw [show zm_count S (tq 0) fd w = (tq 0, fd) from (by subst k1; unfold zm_count; rw [if_neg (by decide), if_pos rfl])]; exact ⟨rfl, rfl⟩)
  rcases Decidable.em (w = 2) with k2 | k2
  · refine W.eq (g2 := F0 m 1 ls (.int 2 :: [])) (by rw [k2]) ?_
    refine lv_tableIn (off := 47) (tgt := 48) hx hb dX5_count_1 (by decide) (by decide) (by decide) (by decide) ?_
    refine lv_aload_n hx hb dX5_count_48 rfl (lv_at hl 0 rfl) ?_
    refine gfX5_10 hx hb hown hts hK hw 0 rfl rfl dX5_count_49 ?_
    refine gfX5_179 hx hb hown hts hK hw 3 rfl rfl dX5_count_52 ?_
    refine lv_aload_n hx hb dX5_count_55 rfl (lv_at hl 0 rfl) ?_
    refine gfX5_10 hx hb hown hts hK hw 0 rfl rfl dX5_count_56 ?_
    refine zcVmi (r := zBi (zopn S) (zN S)) (C1 := (zOW x b t ik fd)) (C2 := (zTW x (t 1) T l1 ++ (zTW x (t 2) K l2 ++ (zPW x b tb tq ++ (zSH x (b 5) (b 9) (bo 0) (so 0) (nn 0) ++ (zSH x (b 6) (b 10) (bo 1) (so 1) (nn 1) ++ (zSH x (b 7) (b 11) (bo 2) (so 2) (nn 2) ++ zSH x (b 8) (b 12) (bo 3) (so 3) (nn 3)))))))) hx hb hml hown hts hl.1 hK hE hA lkX5_80 (c_X3_openHoles x (t 0) S l0 hI) ⟨Nat.le_of_ble_eq_true rfl, Nat.le_of_ble_eq_true rfl⟩ ⟨Nat.zero_le _, Nat.zero_le _⟩ hw 0 2 rfl rfl rfl rfl (Nat.le_of_ble_eq_true rfl) dX5_count_59 (fun H locs hw => ?_)
    have hw : zHw x A s.heap (zHW x b t S l0 T l1 K l2 ik fd tb tq bo so nn) H locs := hw
    refine W.eq (g2 := F0 m 62 ls [.int (nI (zBn (zopn S) (zN S))), .int (S 0 0)]) (by rw [zBi_n _ _ (zN_le hI)]) ?_
    refine zcSwi (r := nI (zpc (zBn (zopn S) (zN S)))) hx hb hml hown hts hl.1 hK hE hA lkX5_263 (c_bitCount x (zHW x b t S l0 T l1 K l2 ik fd tb tq bo so nn) (zBn (zopn S) (zN S)) (zBn_256 _ (zN_le hI))) ⟨Nat.le_of_ble_eq_true rfl, Nat.le_of_ble_eq_true rfl⟩ ⟨Nat.zero_le _, Nat.zero_le _⟩ hw rfl rfl (Nat.le_of_ble_eq_true rfl) dX5_count_62 (fun H locs hw => ?_)
    have hw : zHw x A s.heap (zHW x b t S l0 T l1 K l2 ik fd tb tq bo so nn) H locs := hw
    refine lv_isub hx hb dX5_count_65 ?_
    exact zFG.iret hx hb hr hlocks hQ hw rfl dX5_count_66 (by rw [show zm_count S (tq 0) fd w = ((S 0 0) - (nI (zpc (zBn (zopn S) (zN S)))), fd) from (by subst k2; unfold zm_count; rw [if_neg (by decide), if_neg (by decide), if_pos rfl])]; exact ⟨rfl, rfl⟩)
  rcases Decidable.em (w = 3) with k3 | k3
  · refine W.eq (g2 := F0 m 1 ls (.int 3 :: [])) (by rw [k3]) ?_
    refine lv_tableIn (off := 66) (tgt := 67) hx hb dX5_count_1 (by decide) (by decide) (by decide) (by decide) ?_
    refine lv_aload_n hx hb dX5_count_67 rfl (lv_at hl 0 rfl) ?_
    refine gfX5_10 hx hb hown hts hK hw 0 rfl rfl dX5_count_68 ?_
    refine zcVmi (r := zSu (fun _ => true) (S 8) (zN S)) (C1 := (zOW x b t ik fd)) (C2 := (zTW x (t 1) T l1 ++ (zTW x (t 2) K l2 ++ (zPW x b tb tq ++ (zSH x (b 5) (b 9) (bo 0) (so 0) (nn 0) ++ (zSH x (b 6) (b 10) (bo 1) (so 1) (nn 1) ++ (zSH x (b 7) (b 11) (bo 2) (so 2) (nn 2) ++ zSH x (b 8) (b 12) (bo 3) (so 3) (nn 3)))))))) hx hb hml hown hts hl.1 hK hE hA lkX5_268 (c_X3_holesRungFor x (t 0) S l0 hI) ⟨Nat.le_of_ble_eq_true rfl, Nat.le_of_ble_eq_true rfl⟩ ⟨Nat.zero_le _, Nat.zero_le _⟩ hw 0 2 rfl rfl rfl rfl (Nat.le_of_ble_eq_true rfl) dX5_count_71 (fun H locs hw => ?_)
    have hw : zHw x A s.heap (zHW x b t S l0 T l1 K l2 ik fd tb tq bo so nn) H locs := hw
    exact zFG.iret hx hb hr hlocks hQ hw rfl dX5_count_74 (by rw [show zm_count S (tq 0) fd w = (zSu (fun _ => true) (S 8) (zN S), fd) from (by subst k3; unfold zm_count; rw [if_neg (by decide), if_neg (by decide), if_neg (by decide), if_pos rfl]; rw [zrungs hI _ (zN_le hI)])]; exact ⟨rfl, rfl⟩)
  refine lv_tableOut (tgt := 75) hx hb dX5_count_1 (zout4 k0 k1 k2 k3) (by decide) ?_
  refine lv_aload_n hx hb dX5_count_75 rfl (lv_at hl 0 rfl) ?_
  refine lv_ldc (v := (-1000000001)) hx hb hown (hts _ ckX5_51) dX5_count_76 ?_
  refine zcVwi (r := (-1000000001)) hx hb hml hown hts hl.1 hK hE hA lkX5_52 (c_X5_found x b t S l0 T l1 K l2 ik fd tb tq bo so nn (-1000000001) 0 (by decide) (by decide)) ⟨Nat.le_of_ble_eq_true rfl, Nat.le_of_ble_eq_true rfl⟩ ⟨Nat.zero_le _, Nat.zero_le _⟩ hw 0 3 rfl rfl rfl rfl (Nat.le_of_ble_eq_true rfl) dX5_count_78 (fun H locs hw => ?_)
  have hw : zHw x A s.heap (zHW x b t S l0 T l1 K l2 ik (upd fd 0 (fd 0 + 1)) tb tq bo so nn) H locs := hw
  exact zFG.iret hx hb hr hlocks hQ hw rfl dX5_count_81 (by rw [show zm_count S (tq 0) fd w = ((-1000000001), zFd fd 0) from (by unfold zm_count; rw [if_neg k0, if_neg k1, if_neg k2, if_neg k3])]; exact ⟨rfl, rfl⟩)

set_option maxHeartbeats 4000000 in
set_option maxRecDepth 100000 in
theorem c_X6_count (x : zX) (a : Nat → Nat) (q : Nat → Int32) (g : zT) (nu : Nat → Nat → Int64) (S : zT) (w : Int32) (hI : zInv S) : zFG x mX6_count 3 [.ref (a 0), .int w] (zMW x a q g nu (zflat S)) (fun v' u' => v' = some (.int (zm_count S (q 1) (g 5) w).1) ∧ u' = zMW x a q (zV g 5 (zm_count S (q 1) (g 5) w).2) nu (zflat S)) := by
  refine zFG.start RX6 cX6_count 2 (some .int) rfl rfl (by decide +kernel) (Nat.le_of_ble_eq_true rfl) ?_
  intro p e s m ar below meth c ls A Q hx hb hr hml hown hts hlocks hK hE hA hQ hl hw
  have hl : lv_has ls 2 [(0, .ref (a 0)), (1, .int w)] := hl
  have hw : zHw x A s.heap (zMW x a q g nu (zflat S)) s.heap [] := hw
  refine lv_iload_n hx hb dX6_count_0 rfl (lv_at hl 1 rfl) ?_
  rcases Decidable.em (w = 0) with k0 | k0
  · refine W.eq (g2 := F0 m 1 ls (.int 0 :: [])) (by rw [k0]) ?_
    refine lv_tableIn (off := 31) (tgt := 32) hx hb dX6_count_1 (by decide) (by decide) (by decide) (by decide) ?_
    refine lv_aload_n hx hb dX6_count_32 rfl (lv_at hl 0 rfl) ?_
    refine gfX6_7 hx hb hown hts hK hw 0 rfl rfl dX6_count_33 ?_
    refine lv_iconst (v := 0) hx hb dX6_count_36 (by decide) ?_
    refine zial2 (v := S 0 0) hx hb hK hw 1 0 0 rfl rfl rfl (by decide) (by decide) dX6_count_37 rfl ?_
    exact zFG.iret hx hb hr hlocks hQ hw rfl dX6_count_38 (by rw [show zm_count S (q 1) (g 5) w = (S 0 0, g 5) from (by subst k0; unfold zm_count; rw [if_pos rfl])]; exact ⟨rfl, congrArg (fun z => zMW x a q z nu _) (zV_self g 5).symm⟩)
  rcases Decidable.em (w = 1) with k1 | k1
  · refine W.eq (g2 := F0 m 1 ls (.int 1 :: [])) (by rw [k1]) ?_
    refine lv_tableIn (off := 38) (tgt := 39) hx hb dX6_count_1 (by decide) (by decide) (by decide) (by decide) ?_
    refine lv_aload_n hx hb dX6_count_39 rfl (lv_at hl 0 rfl) ?_
    refine gfX6_183 hx hb hown hts hK hw 0 rfl rfl dX6_count_40 ?_
    exact zFG.iret hx hb hr hlocks hQ hw rfl dX6_count_43 (by rw [show zm_count S (q 1) (g 5) w = (q 1, g 5) from (by subst k1; unfold zm_count; rw [if_neg (by decide), if_pos rfl])]; exact ⟨rfl, congrArg (fun z => zMW x a q z nu _) (zV_self g 5).symm⟩)
  rcases Decidable.em (w = 2) with k2 | k2
  · refine W.eq (g2 := F0 m 1 ls (.int 2 :: [])) (by rw [k2]) ?_
    refine lv_tableIn (off := 43) (tgt := 44) hx hb dX6_count_1 (by decide) (by decide) (by decide) (by decide) ?_
    refine lv_aload_n hx hb dX6_count_44 rfl (lv_at hl 0 rfl) ?_
    refine gfX6_7 hx hb hown hts hK hw 0 rfl rfl dX6_count_45 ?_
    refine lv_iconst (v := 0) hx hb dX6_count_48 (by decide) ?_
    refine zial2 (v := S 0 0) hx hb hK hw 1 0 0 rfl rfl rfl (by decide) (by decide) dX6_count_49 rfl ?_
    refine lv_aload_n hx hb dX6_count_50 rfl (lv_at hl 0 rfl) ?_
    refine lv_iconst (v := 3) hx hb dX6_count_51 (by decide) ?_
    refine lv_iconst (v := 0) hx hb dX6_count_52 (by decide) ?_
    refine zcVwi (r := zBi (fun h => decide (S 6 h = 0)) (zN S)) hx hb hml hown hts hl.1 hK hE hA lkX6_77 (c_X6_thoseAs x a q g nu S 3 0 hI (by decide)) ⟨Nat.le_of_ble_eq_true rfl, Nat.le_of_ble_eq_true rfl⟩ ⟨Nat.zero_le _, Nat.zero_le _⟩ hw 0 4 rfl rfl rfl rfl (Nat.le_of_ble_eq_true rfl) dX6_count_53 (fun H locs hw => ?_)
    have hw : zHw x A s.heap (zMW x a q g nu (zflat S)) H locs := hw
    refine W.eq (g2 := F0 m 56 ls [.int (nI (zBn (zopn S) (zN S))), .int (S 0 0)]) (by rw [zBi_n _ _ (zN_le hI)]; rfl) ?_
    refine zcSwi (r := nI (zpc (zBn (zopn S) (zN S)))) hx hb hml hown hts hl.1 hK hE hA lkX6_314 (c_X6_ones x (zMW x a q g nu (zflat S)) (zBn (zopn S) (zN S)) (zBn_256 _ (zN_le hI))) ⟨Nat.le_of_ble_eq_true rfl, Nat.le_of_ble_eq_true rfl⟩ ⟨Nat.zero_le _, Nat.zero_le _⟩ hw rfl rfl (Nat.le_of_ble_eq_true rfl) dX6_count_56 (fun H locs hw => ?_)
    have hw : zHw x A s.heap (zMW x a q g nu (zflat S)) H locs := hw
    refine lv_isub hx hb dX6_count_59 ?_
    exact zFG.iret hx hb hr hlocks hQ hw rfl dX6_count_60 (by rw [show zm_count S (q 1) (g 5) w = ((S 0 0) - (nI (zpc (zBn (zopn S) (zN S)))), g 5) from (by subst k2; unfold zm_count; rw [if_neg (by decide), if_neg (by decide), if_pos rfl])]; exact ⟨rfl, congrArg (fun z => zMW x a q z nu _) (zV_self g 5).symm⟩)
  rcases Decidable.em (w = 3) with k3 | k3
  · refine W.eq (g2 := F0 m 1 ls (.int 3 :: [])) (by rw [k3]) ?_
    refine lv_tableIn (off := 60) (tgt := 61) hx hb dX6_count_1 (by decide) (by decide) (by decide) (by decide) ?_
    refine lv_aload_n hx hb dX6_count_61 rfl (lv_at hl 0 rfl) ?_
    refine lv_iconst (v := 5) hx hb dX6_count_62 (by decide) ?_
    refine lv_iconst (v := 1) hx hb dX6_count_63 (by decide) ?_
    refine zcVwi (r := zBi (fun h => decide (S 8 h = 1)) (zN S)) hx hb hml hown hts hl.1 hK hE hA lkX6_77 (c_X6_thoseAs x a q g nu S 5 1 hI (by decide)) ⟨Nat.le_of_ble_eq_true rfl, Nat.le_of_ble_eq_true rfl⟩ ⟨Nat.zero_le _, Nat.zero_le _⟩ hw 0 4 rfl rfl rfl rfl (Nat.le_of_ble_eq_true rfl) dX6_count_64 (fun H locs hw => ?_)
    have hw : zHw x A s.heap (zMW x a q g nu (zflat S)) H locs := hw
    refine W.eq (g2 := F0 m 67 ls [.int (nI (zBn (fun h => decide (S 8 h = 1)) (zN S)))]) (by rw [zBi_n _ _ (zN_le hI)]) ?_
    refine zcSwi (r := nI (zpc (zBn (fun h => decide (S 8 h = 1)) (zN S)))) hx hb hml hown hts hl.1 hK hE hA lkX6_314 (c_X6_ones x (zMW x a q g nu (zflat S)) (zBn (fun h => decide (S 8 h = 1)) (zN S)) (zBn_256 _ (zN_le hI))) ⟨Nat.le_of_ble_eq_true rfl, Nat.le_of_ble_eq_true rfl⟩ ⟨Nat.zero_le _, Nat.zero_le _⟩ hw rfl rfl (Nat.le_of_ble_eq_true rfl) dX6_count_67 (fun H locs hw => ?_)
    have hw : zHw x A s.heap (zMW x a q g nu (zflat S)) H locs := hw
    exact zFG.iret hx hb hr hlocks hQ hw rfl dX6_count_70 (by rw [show zm_count S (q 1) (g 5) w = (nI (zpc (zBn (fun h => decide (S 8 h = 1)) (zN S))), g 5) from (by subst k3; unfold zm_count; rw [if_neg (by decide), if_neg (by decide), if_neg (by decide), if_pos rfl])]; exact ⟨rfl, congrArg (fun z => zMW x a q z nu _) (zV_self g 5).symm⟩)
  refine lv_tableOut (tgt := 71) hx hb dX6_count_1 (zout4 k0 k1 k2 k3) (by decide) ?_
  refine lv_aload_n hx hb dX6_count_71 rfl (lv_at hl 0 rfl) ?_
  refine lv_ldc (v := (-1000000001)) hx hb hown (hts _ ckX6_45) dX6_count_72 ?_
  refine zcVwi (r := (-1000000001)) hx hb hml hown hts hl.1 hK hE hA lkX6_64 (c_X6_finds x a q g nu (zflat S) (-1000000001) 0 (by decide) (by decide)) ⟨Nat.le_of_ble_eq_true rfl, Nat.le_of_ble_eq_true rfl⟩ ⟨Nat.zero_le _, Nat.zero_le _⟩ hw 0 4 rfl rfl rfl rfl (Nat.le_of_ble_eq_true rfl) dX6_count_74 (fun H locs hw => ?_)
  have hw : zHw x A s.heap (zMW x a q (zU g 5 0 (g 5 0 + 1)) nu (zflat S)) H locs := hw
  exact zFG.iret hx hb hr hlocks hQ hw rfl dX6_count_77 (by rw [show zm_count S (q 1) (g 5) w = ((-1000000001), zFd (g 5) 0) from (by unfold zm_count; rw [if_neg k0, if_neg k1, if_neg k2, if_neg k3])]; exact ⟨rfl, rfl⟩)

set_option maxHeartbeats 4000000 in
set_option maxRecDepth 100000 in
theorem c_X5_status (x : zX) (b : Nat → Nat) (t : Nat → Nat → Nat) (S : zT) (l0 : Int32) (T : zT) (l1 : Int32) (K : zT) (l2 ik : Int32) (fd tb tq bo so : Nat → Int32) (nn : Nat → Nat → Int64) (w : Int32) : zFG x mX5_status 1 [.ref (b 0), .int w] (zHW x b t S l0 T l1 K l2 ik fd tb tq bo so nn) (fun v' u' => v' = some (.int (zm_status fd w).1) ∧ u' = zHW x b t S l0 T l1 K l2 ik (zm_status fd w).2 tb tq bo so nn) := by
  refine zFG.start RX5 cX5_status 4 (some .int) rfl rfl (by decide +kernel) (Nat.le_of_ble_eq_true rfl) ?_
  intro p e s m ar below meth c ls A Q hx hb hr hml hown hts hlocks hK hE hA hQ hl hw
  have hl : lv_has ls 4 [(0, .ref (b 0)), (1, .int w)] := hl
  have hw : zHw x A s.heap (zHW x b t S l0 T l1 K l2 ik fd tb tq bo so nn) s.heap [] := hw
  refine lv_iload_n hx hb dX5_status_0 rfl (lv_at hl 1 rfl) ?_
  refine lv_iconst (v := (-1)) hx hb dX5_status_1 (by decide) ?_
  refine lv_bipush (v := 6) hx hb dX5_status_2 (by decide) ?_
  refine zcSwi (r := zb ((-1) ≤ w ∧ w ≤ 6)) hx hb hml hown hts hl.1 hK hE hA lkX5_44 (c_X5_within x (zHW x b t S l0 T l1 K l2 ik fd tb tq bo so nn) w (-1) 6) ⟨Nat.le_of_ble_eq_true rfl, Nat.le_of_ble_eq_true rfl⟩ ⟨Nat.zero_le _, Nat.zero_le _⟩ hw rfl rfl (Nat.le_of_ble_eq_true rfl) dX5_status_4 (fun H locs hw => ?_)
  have hw : zHw x A s.heap (zHW x b t S l0 T l1 K l2 ik fd tb tq bo so nn) H locs := hw
  refine lv_if_ne (tgt := 17) hx hb dX5_status_7 (by decide) (fun c7 => ?_) (fun c7 => ?_)
  · have c7 := zb_n0.mp c7
    refine lv_iload_n hx hb dX5_status_17 rfl (lv_at hl 1 rfl) ?_
    refine lv_if_lt (tgt := 28) hx hb dX5_status_18 (by decide) (fun c18 => ?_) (fun c18 => ?_)
    · refine lv_iconst (v := 0) hx hb dX5_status_28 (by decide) ?_
      refine lv_istore_n (lv' := [(2, .int 0), (0, .ref (b 0)), (1, .int w)]) hx hb dX5_status_29 rfl hl (by decide) rfl (fun ls hl => ?_)
      refine lv_iconst (v := 0) hx hb dX5_status_30 (by decide) ?_
      refine lv_istore_n (lv' := [(3, .int 0), (2, .int 0), (0, .ref (b 0)), (1, .int w)]) hx hb dX5_status_31 rfl hl (by decide) rfl (fun ls hl => ?_)
      have loop32 : ∀ (dd : Nat) (k : Nat), 7 - k < dd → (hk : k ≤ 7) → ∀ (H : Heap) (locs : List Loc) (ls : Array Slot), zHw x A s.heap (zHW x b t S l0 T l1 K l2 ik fd tb tq bo so nn) H locs → lv_has ls 4 [(0, .ref (b 0)), (2, .int (zS7 fd k)), (3, .int (nI k))] → W p x.1 e (zRM 1) s m ar below meth c H locs 0 0 Q (F0 m 32 ls []) := by
        intro dd
        induction dd with
        | zero => intro k hm; exact absurd hm (Nat.not_lt_zero _)
        | succ dd ih32 =>
          intro k hm hk H locs ls hw hl
          refine lv_iload_n hx hb dX5_status_32 rfl (lv_at hl 2 rfl) ?_
          refine lv_bipush (v := 7) hx hb dX5_status_33 (by decide) ?_
          refine lv_icmp_ge (tgt := 53) hx hb dX5_status_35 (by decide) (fun c35 => ?_) (fun c35 => ?_)
          · have hke : k = 7 := zke (v := 7) rfl (by omega) hk c35
            refine lv_iload_n hx hb dX5_status_53 rfl (lv_at hl 1 rfl) ?_
            exact zFG.iret hx hb hr hlocks hQ hw rfl dX5_status_54 (by rw [show zm_status fd w = (zS7 fd k, fd) from (by unfold zm_status; rw [if_pos c7, if_pos c18, hke])]; exact ⟨rfl, rfl⟩)
          · have hkn : k < 7 := zkn (v := 7) rfl (by omega) hk c35
            refine lv_iload_n hx hb dX5_status_38 rfl (lv_at hl 1 rfl) ?_
            refine lv_aload_n hx hb dX5_status_39 rfl (lv_at hl 0 rfl) ?_
            refine gfX5_39 hx hb hown hts hK hw 0 rfl rfl dX5_status_40 ?_
            refine lv_iload_n hx hb dX5_status_43 rfl (lv_at hl 2 rfl) ?_
            refine zial hx hb hK hw 1 0 k rfl rfl rfl (by omega) (by decide) dX5_status_44 ?_
            refine lv_iadd hx hb dX5_status_45 ?_
            refine lv_istore_n (lv' := [(2, .int ((zS7 fd k) + (fd k))), (0, .ref (b 0)), (3, .int (nI k))]) hx hb dX5_status_46 rfl hl (by decide) rfl (fun ls hl => ?_)
            refine lv_iinc (v := nI (k + 1)) (lv' := [(3, .int (nI (k + 1))), (2, .int ((zS7 fd k) + (fd k))), (0, .ref (b 0))]) hx hb dX5_status_47 hl (k := 2) rfl (nI_1 k) (by decide) rfl (fun ls hl => ?_)
            refine lv_goto (tgt := 32) hx hb dX5_status_50 (by decide) ?_
            exact ih32 (k + 1) (by omega) (by omega) _ _ _ hw (lv_sub hl [2, 1, 0] rfl)
      exact loop32 (_ + 1) 0 (Nat.lt_succ_self _) (Nat.zero_le _) _ _ _ hw (lv_sub hl [2, 1, 0] rfl)
    · obtain ⟨j, hj, rfl⟩ := zBw_nat (lo := 0) (hi := 6) ⟨Int32.not_lt.mp c18, c7.2⟩ (by decide) (by decide)
      refine lv_aload_n hx hb dX5_status_21 rfl (lv_at hl 0 rfl) ?_
      refine gfX5_39 hx hb hown hts hK hw 0 rfl rfl dX5_status_22 ?_
      refine lv_iload_n hx hb dX5_status_25 rfl (lv_at hl 1 rfl) ?_
      refine zial hx hb hK hw 1 0 j rfl rfl rfl (by omega) (by decide) dX5_status_26 ?_
      exact zFG.iret hx hb hr hlocks hQ hw rfl dX5_status_27 (by rw [show zm_status fd (nI j) = (fd j, fd) from (by unfold zm_status; rw [if_pos c7, if_neg c18, zc_nI (show j < 2147483648 by omega)])]; exact ⟨rfl, rfl⟩)
  · have c7 := zb_0.mp c7
    refine lv_aload_n hx hb dX5_status_10 rfl (lv_at hl 0 rfl) ?_
    refine lv_ldc (v := (-1000000001)) hx hb hown (hts _ ckX5_51) dX5_status_11 ?_
    refine zcVwi (r := (-1000000001)) hx hb hml hown hts hl.1 hK hE hA lkX5_52 (c_X5_found x b t S l0 T l1 K l2 ik fd tb tq bo so nn (-1000000001) 0 (by decide) (by decide)) ⟨Nat.le_of_ble_eq_true rfl, Nat.le_of_ble_eq_true rfl⟩ ⟨Nat.zero_le _, Nat.zero_le _⟩ hw 0 3 rfl rfl rfl rfl (Nat.le_of_ble_eq_true rfl) dX5_status_13 (fun H locs hw => ?_)
    have hw : zHw x A s.heap (zHW x b t S l0 T l1 K l2 ik (upd fd 0 (fd 0 + 1)) tb tq bo so nn) H locs := hw
    exact zFG.iret hx hb hr hlocks hQ hw rfl dX5_status_16 (by rw [show zm_status fd w = ((-1000000001), zFd fd 0) from (by unfold zm_status; rw [if_neg c7])]; exact ⟨rfl, rfl⟩)

set_option maxHeartbeats 4000000 in
set_option maxRecDepth 100000 in
theorem c_X6_status (x : zX) (a : Nat → Nat) (q : Nat → Int32) (g : zT) (nu : Nat → Nat → Int64) (S : zT) (w : Int32) : zFG x mX6_status 1 [.ref (a 0), .int w] (zMW x a q g nu (zflat S)) (fun v' u' => v' = some (.int (zm_status (g 5) w).1) ∧ u' = zMW x a q (zV g 5 (zm_status (g 5) w).2) nu (zflat S)) := by
  refine zFG.start RX6 cX6_status 4 (some .int) rfl rfl (by decide +kernel) (Nat.le_of_ble_eq_true rfl) ?_
  intro p e s m ar below meth c ls A Q hx hb hr hml hown hts hlocks hK hE hA hQ hl hw
  have hl : lv_has ls 4 [(0, .ref (a 0)), (1, .int w)] := hl
  have hw : zHw x A s.heap (zMW x a q g nu (zflat S)) s.heap [] := hw
  refine lv_iload_n hx hb dX6_status_0 rfl (lv_at hl 1 rfl) ?_
  refine lv_i2l hx hb dX6_status_1 rfl ?_
  refine lv_ldc2 (v := (-1)) hx hb hown (hts _ ckX6_317) dX6_status_2 ?_
  refine lv_ldc2 (v := 6) hx hb hown (hts _ ckX6_59) dX6_status_5 ?_
  refine zcSwi (r := zb ((-1) ≤ w ∧ w ≤ 6)) hx hb hml hown hts hl.1 hK hE hA lkX6_48 (c_X6_inI x (zMW x a q g nu (zflat S)) w (-1) 6) ⟨Nat.le_of_ble_eq_true rfl, Nat.le_of_ble_eq_true rfl⟩ ⟨Nat.zero_le _, Nat.zero_le _⟩ hw rfl rfl (Nat.le_of_ble_eq_true rfl) dX6_status_8 (fun H locs hw => ?_)
  have hw : zHw x A s.heap (zMW x a q g nu (zflat S)) H locs := hw
  refine lv_if_ne (tgt := 21) hx hb dX6_status_11 (by decide) (fun c11 => ?_) (fun c11 => ?_)
  · have c11 := zb_n0.mp c11
    refine lv_iconst (v := 0) hx hb dX6_status_21 (by decide) ?_
    refine lv_istore_n (lv' := [(2, .int 0), (0, .ref (a 0)), (1, .int w)]) hx hb dX6_status_22 rfl hl (by decide) rfl (fun ls hl => ?_)
    refine lv_iconst (v := 0) hx hb dX6_status_23 (by decide) ?_
    refine lv_istore_n (lv' := [(3, .int 0), (2, .int 0), (0, .ref (a 0)), (1, .int w)]) hx hb dX6_status_24 rfl hl (by decide) rfl (fun ls hl => ?_)
    have loop25 : ∀ (dd : Nat) (k : Nat), 7 - k < dd → (hk : k ≤ 7) → ∀ (H : Heap) (locs : List Loc) (ls : Array Slot), zHw x A s.heap (zMW x a q g nu (zflat S)) H locs → lv_has ls 4 [(0, .ref (a 0)), (1, .int w), (2, .int (zSu (fun h => decide (w < 0 ∨ nI h = w)) (g 5) k)), (3, .int (nI k))] → W p x.1 e (zRM 1) s m ar below meth c H locs 0 0 Q (F0 m 25 ls []) := by
      intro dd
      induction dd with
      | zero => intro k hm; exact absurd hm (Nat.not_lt_zero _)
      | succ dd ih25 =>
        intro k hm hk H locs ls hw hl
        refine lv_iload_n hx hb dX6_status_25 rfl (lv_at hl 3 rfl) ?_
        refine lv_bipush (v := 7) hx hb dX6_status_26 (by decide) ?_
        refine lv_icmp_ge (tgt := 59) hx hb dX6_status_28 (by decide) (fun c28 => ?_) (fun c28 => ?_)
        · have hke : k = 7 := zke (v := 7) rfl (by omega) hk c28
          refine lv_iload_n hx hb dX6_status_59 rfl (lv_at hl 2 rfl) ?_
          exact zFG.iret hx hb hr hlocks hQ hw rfl dX6_status_60 (by rw [show zm_status (g 5) w = (zSu (fun h => decide (w < 0 ∨ nI h = w)) (g 5) k, g 5) from (by unfold zm_status; rw [if_pos c11, hke]; exact congrArg (fun z => (z, g 5)) (zstat c11))]; exact ⟨rfl, congrArg (fun z => zMW x a q z nu _) (zV_self g 5).symm⟩)
        · have hkn : k < 7 := zkn (v := 7) rfl (by omega) hk c28
          refine lv_iload_n hx hb dX6_status_31 rfl (lv_at hl 2 rfl) ?_
          refine lv_iload_n hx hb dX6_status_32 rfl (lv_at hl 1 rfl) ?_
          refine lv_if_lt (tgt := 41) hx hb dX6_status_33 (by decide) (fun c33 => ?_) (fun c33 => ?_)
          · refine lv_aload_n hx hb dX6_status_41 rfl (lv_at hl 0 rfl) ?_
            refine gfX6_22 hx hb hown hts hK hw 0 rfl rfl dX6_status_42 ?_
            refine lv_iload_n hx hb dX6_status_45 rfl (lv_at hl 3 rfl) ?_
            refine zial hx hb hK hw 5 0 k rfl rfl rfl (by omega) (by decide) dX6_status_46 ?_
            refine lv_goto (tgt := 51) hx hb dX6_status_47 (by decide) ?_
            refine lv_iadd hx hb dX6_status_51 ?_
            refine lv_istore_n (lv' := [(2, .int ((zSu (fun h => decide (w < 0 ∨ nI h = w)) (g 5) k) + ((g 5) k))), (0, .ref (a 0)), (1, .int w), (3, .int (nI k))]) hx hb dX6_status_52 rfl hl (by decide) rfl (fun ls hl => ?_)
            have hl : lv_has ls 4 [(2, .int (zSu (fun h => decide (w < 0 ∨ nI h = w)) (g 5) (k + 1))), (0, .ref (a 0)), (1, .int w), (3, .int (nI k))] := by
              rw [show zSu (fun h => decide (w < 0 ∨ nI h = w)) (g 5) (k + 1) = (zSu (fun h => decide (w < 0 ∨ nI h = w)) (g 5) k) + ((g 5) k) from (by first | exact if_pos (decide_eq_true (Or.inl c33)) | exact if_pos (decide_eq_true (Or.inr c38)) | (rw [zadd0]; exact if_neg (fun h => (of_decide_eq_true h).elim c33 c38)))]; exact hl
            refine lv_iinc (v := nI (k + 1)) (lv' := [(3, .int (nI (k + 1))), (2, .int (zSu (fun h => decide (w < 0 ∨ nI h = w)) (g 5) (k + 1))), (0, .ref (a 0)), (1, .int w)]) hx hb dX6_status_53 hl (k := 3) rfl (nI_1 k) (by decide) rfl (fun ls hl => ?_)
            refine lv_goto (tgt := 25) hx hb dX6_status_56 (by decide) ?_
            exact ih25 (k + 1) (by omega) (by omega) _ _ _ hw (lv_sub hl [2, 3, 1, 0] rfl)
          · refine lv_iload_n hx hb dX6_status_36 rfl (lv_at hl 3 rfl) ?_
            refine lv_iload_n hx hb dX6_status_37 rfl (lv_at hl 1 rfl) ?_
            refine lv_icmp_ne (tgt := 50) hx hb dX6_status_38 (by decide) (fun c38 => ?_) (fun c38 => ?_)
            · refine lv_iconst (v := 0) hx hb dX6_status_50 (by decide) ?_
              refine lv_iadd hx hb dX6_status_51 ?_
              refine lv_istore_n (lv' := [(2, .int ((zSu (fun h => decide (w < 0 ∨ nI h = w)) (g 5) k) + 0)), (0, .ref (a 0)), (1, .int w), (3, .int (nI k))]) hx hb dX6_status_52 rfl hl (by decide) rfl (fun ls hl => ?_)
              have hl : lv_has ls 4 [(2, .int (zSu (fun h => decide (w < 0 ∨ nI h = w)) (g 5) (k + 1))), (0, .ref (a 0)), (1, .int w), (3, .int (nI k))] := by
                rw [show zSu (fun h => decide (w < 0 ∨ nI h = w)) (g 5) (k + 1) = (zSu (fun h => decide (w < 0 ∨ nI h = w)) (g 5) k) + 0 from (by first | exact if_pos (decide_eq_true (Or.inl c33)) | exact if_pos (decide_eq_true (Or.inr c38)) | (rw [zadd0]; exact if_neg (fun h => (of_decide_eq_true h).elim c33 c38)))]; exact hl
              refine lv_iinc (v := nI (k + 1)) (lv' := [(3, .int (nI (k + 1))), (2, .int (zSu (fun h => decide (w < 0 ∨ nI h = w)) (g 5) (k + 1))), (0, .ref (a 0)), (1, .int w)]) hx hb dX6_status_53 hl (k := 3) rfl (nI_1 k) (by decide) rfl (fun ls hl => ?_)
              refine lv_goto (tgt := 25) hx hb dX6_status_56 (by decide) ?_
              exact ih25 (k + 1) (by omega) (by omega) _ _ _ hw (lv_sub hl [2, 3, 1, 0] rfl)
            · refine lv_aload_n hx hb dX6_status_41 rfl (lv_at hl 0 rfl) ?_
              refine gfX6_22 hx hb hown hts hK hw 0 rfl rfl dX6_status_42 ?_
              refine lv_iload_n hx hb dX6_status_45 rfl (lv_at hl 3 rfl) ?_
              refine zial hx hb hK hw 5 0 k rfl rfl rfl (by omega) (by decide) dX6_status_46 ?_
              refine lv_goto (tgt := 51) hx hb dX6_status_47 (by decide) ?_
              refine lv_iadd hx hb dX6_status_51 ?_
              refine lv_istore_n (lv' := [(2, .int ((zSu (fun h => decide (w < 0 ∨ nI h = w)) (g 5) k) + ((g 5) k))), (0, .ref (a 0)), (1, .int w), (3, .int (nI k))]) hx hb dX6_status_52 rfl hl (by decide) rfl (fun ls hl => ?_)
              have hl : lv_has ls 4 [(2, .int (zSu (fun h => decide (w < 0 ∨ nI h = w)) (g 5) (k + 1))), (0, .ref (a 0)), (1, .int w), (3, .int (nI k))] := by
                rw [show zSu (fun h => decide (w < 0 ∨ nI h = w)) (g 5) (k + 1) = (zSu (fun h => decide (w < 0 ∨ nI h = w)) (g 5) k) + ((g 5) k) from (by first | exact if_pos (decide_eq_true (Or.inl c33)) | exact if_pos (decide_eq_true (Or.inr c38)) | (rw [zadd0]; exact if_neg (fun h => (of_decide_eq_true h).elim c33 c38)))]; exact hl
              refine lv_iinc (v := nI (k + 1)) (lv' := [(3, .int (nI (k + 1))), (2, .int (zSu (fun h => decide (w < 0 ∨ nI h = w)) (g 5) (k + 1))), (0, .ref (a 0)), (1, .int w)]) hx hb dX6_status_53 hl (k := 3) rfl (nI_1 k) (by decide) rfl (fun ls hl => ?_)
              refine lv_goto (tgt := 25) hx hb dX6_status_56 (by decide) ?_
              exact ih25 (k + 1) (by omega) (by omega) _ _ _ hw (lv_sub hl [2, 3, 1, 0] rfl)
    exact loop25 (_ + 1) 0 (Nat.lt_succ_self _) (Nat.zero_le _) _ _ _ hw (lv_sub hl [2, 3, 1, 0] rfl)
  · have c11 := zb_0.mp c11
    refine lv_aload_n hx hb dX6_status_14 rfl (lv_at hl 0 rfl) ?_
    refine lv_ldc (v := (-1000000001)) hx hb hown (hts _ ckX6_45) dX6_status_15 ?_
    refine zcVwi (r := (-1000000001)) hx hb hml hown hts hl.1 hK hE hA lkX6_64 (c_X6_finds x a q g nu (zflat S) (-1000000001) 0 (by decide) (by decide)) ⟨Nat.le_of_ble_eq_true rfl, Nat.le_of_ble_eq_true rfl⟩ ⟨Nat.zero_le _, Nat.zero_le _⟩ hw 0 4 rfl rfl rfl rfl (Nat.le_of_ble_eq_true rfl) dX6_status_17 (fun H locs hw => ?_)
    have hw : zHw x A s.heap (zMW x a q (zU g 5 0 (g 5 0 + 1)) nu (zflat S)) H locs := hw
    exact zFG.iret hx hb hr hlocks hQ hw rfl dX6_status_20 (by rw [show zm_status (g 5) w = ((-1000000001), zFd (g 5) 0) from (by unfold zm_status; rw [if_neg c11])]; exact ⟨rfl, rfl⟩)
