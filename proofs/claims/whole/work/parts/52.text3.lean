set_option maxHeartbeats 4000000 in
set_option maxRecDepth 100000 in
theorem c_X5_text (x : zX) (b : Nat → Nat) (t : Nat → Nat → Nat) (S : zT) (l0 : Int32) (T : zT) (l1 : Int32) (K : zT) (l2 ik : Int32) (fd tb tq bo so : Nat → Int32) (nn : Nat → Nat → Int64) (n : Nat) (htl : tq 0 = nI n) (hn : n ≤ 120) (hI : zInv S) : zFG x mX5_text 9 [.ref (b 0)] (zHW x b t S l0 T l1 K l2 ik fd tb tq bo so nn) (fun v' u' => v' = some (.int (zm_text tb n S).1) ∧ ∃ (l02 : Int32) (T2 : zT) (l12 : Int32) (tq2 : Nat → Int32), tq2 0 = 0 ∧ u' = zHW x b t (zm_text tb n S).2 l02 T2 l12 K l2 ik fd tb tq2 bo so nn) := by
  refine zFG.start RX5 cX5_text 3 (some .int) rfl rfl (by decide +kernel) (Nat.le_of_ble_eq_true rfl) ?_
  intro p e s m ar below meth c ls A Q hx hb hr hml hown hts hlocks hK hE hA hQ hl hw
  have hl : lv_has ls 3 [(0, .ref (b 0))] := hl
  have hw : zHw x A s.heap (zHW x b t S l0 T l1 K l2 ik fd tb tq bo so nn) s.heap [] := hw
  refine lv_aload_n hx hb dX5_text_0 rfl (lv_at hl 0 rfl) ?_
  refine zcVwa hx hb hml hown hts hl.1 hK hE hA lkX5_171 (c_X5_asItIs x b t S l0 T l1 K l2 ik fd tb tq bo so nn) ⟨Nat.le_of_ble_eq_true rfl, Nat.le_of_ble_eq_true rfl⟩ ⟨Nat.zero_le _, Nat.zero_le _⟩ hw 0 3 rfl rfl rfl rfl (Nat.le_of_ble_eq_true rfl) dX5_text_1 (fun H locs hw => ?_)
  have hw : zHw x A s.heap (zHW x b t S l0 S 1000 K l2 ik fd tb tq bo so nn) H locs := hw
  refine lv_astore_n (lv' := [(1, .ref ((t 1) 0)), (0, .ref (b 0))]) hx hb dX5_text_4 rfl hl (by decide) rfl (fun ls hl => ?_)
  refine lv_aload_n hx hb dX5_text_5 rfl (lv_at hl 1 rfl) ?_
  refine gfX5_29 hx hb hown hts hK hw 0 rfl rfl dX5_text_6 ?_
  refine lv_aload_n hx hb dX5_text_9 rfl (lv_at hl 0 rfl) ?_
  have hw := hw.pick (ws' := zOW x b t ik fd ++ ((zPW x b tb tq ++ zTW x (t 1) S 1000) ++ (zTW x (t 0) S l0 ++ (zTW x (t 2) K l2 ++ (zSH x (b 5) (b 9) (bo 0) (so 0) (nn 0) ++ (zSH x (b 6) (b 10) (bo 1) (so 1) (nn 1) ++ (zSH x (b 7) (b 11) (bo 2) (so 2) (nn 2) ++ zSH x (b 8) (b 12) (bo 3) (so 3) (nn 3)))))))) [0, 1, 2, 30, 31, 12, 13, 14, 15, 16, 17, 18, 19, 20, 3, 4, 5, 6, 7, 8, 9, 10, 11, 21, 22, 23, 24, 25, 26, 27, 28, 29, 32, 33, 34, 35, 36, 37, 38, 39] (by decide) rfl
  refine zcSm (C1 := (zOW x b t ik fd)) (C2 := (zTW x (t 0) S l0 ++ (zTW x (t 2) K l2 ++ (zSH x (b 5) (b 9) (bo 0) (so 0) (nn 0) ++ (zSH x (b 6) (b 10) (bo 1) (so 1) (nn 1) ++ (zSH x (b 7) (b 11) (bo 2) (so 2) (nn 2) ++ zSH x (b 8) (b 12) (bo 3) (so 3) (nn 3))))))) hx hb hml hown hts hl.1 hK hE hA lkX5_209 (c_X4_readAll x b (t 1) tb tq n 1000 S htl hn hI) ⟨Nat.le_of_ble_eq_true rfl, Nat.le_of_ble_eq_true rfl⟩ ⟨Nat.zero_le _, Nat.zero_le _⟩ hw rfl rfl (Nat.le_of_ble_eq_true rfl) dX5_text_10 (fun vv uu H locs hp hw => ?_)
  obtain ⟨rfl, tq2, T2, hT2, rfl⟩ := hp
  refine W.eq (g2 := F0 m 13 ls [.int ((zTx tb n 121 1 (zRu tb n 32 32 0) S).1)]) rfl ?_
  have hw : zHw x A s.heap (zHW x b t S l0 T2 1000 K l2 ik fd tb tq2 bo so nn) H locs := hw.pick [0, 1, 2, 14, 15, 16, 17, 18, 19, 20, 21, 22, 5, 6, 7, 8, 9, 10, 11, 12, 13, 23, 24, 25, 26, 27, 28, 29, 30, 31, 3, 4, 32, 33, 34, 35, 36, 37, 38, 39] (by decide) rfl
  refine lv_istore_n (lv' := [(2, .int ((zTx tb n 121 1 (zRu tb n 32 32 0) S).1)), (1, .ref ((t 1) 0)), (0, .ref (b 0))]) hx hb dX5_text_13 rfl hl (by decide) rfl (fun ls hl => ?_)
  refine lv_aload_n hx hb dX5_text_14 rfl (lv_at hl 2 rfl) ?_
  refine gfX5_29 hx hb hown hts hK hw 0 rfl rfl dX5_text_15 ?_
  refine zcVmi (r := tq2 0) (C1 := (zOW x b t ik fd ++ (zTW x (t 0) S l0 ++ (zTW x (t 1) T2 1000 ++ zTW x (t 2) K l2)))) (C2 := (zSH x (b 5) (b 9) (bo 0) (so 0) (nn 0) ++ (zSH x (b 6) (b 10) (bo 1) (so 1) (nn 1) ++ (zSH x (b 7) (b 11) (bo 2) (so 2) (nn 2) ++ zSH x (b 8) (b 12) (bo 3) (so 3) (nn 3))))) hx hb hml hown hts hl.1 hK hE hA lkX5_206 (c_X2_clear x b tb tq2 ) ⟨Nat.le_of_ble_eq_true rfl, Nat.le_of_ble_eq_true rfl⟩ ⟨Nat.zero_le _, Nat.zero_le _⟩ hw 0 1 rfl rfl rfl rfl (Nat.le_of_ble_eq_true rfl) dX5_text_18 (fun H locs hw => ?_)
  have hw : zHw x A s.heap (zHW x b t S l0 T2 1000 K l2 ik fd tb (upd tq2 0 0) bo so nn) H locs := hw
  refine lv_pop hx hb dX5_text_21 rfl ?_
  rcases zTx_ok hn 121 1 (zRu tb n 32 32 0) S (zRu_le (Nat.zero_le n)) hI (by decide) (by decide) with ⟨hN, hle⟩ | ⟨S', hsome, hpos, hI'⟩
  · refine lv_iload_n hx hb dX5_text_22 rfl (lv_at hl 0 rfl) ?_
    refine lv_if_le (tgt := 34) hx hb dX5_text_23 (by decide) (fun c23 => ?_) (fun c23 => absurd (hle) c23)
    refine lv_iload_n hx hb dX5_text_34 rfl (lv_at hl 0 rfl) ?_
    exact zFG.iret hx hb hr hlocks hQ hw rfl dX5_text_35 ⟨rfl, l0, T2, 1000, upd tq2 0 0, rfl, by rw [show (zm_text tb n S).2 = S from by unfold zm_text; rw [hN]; rfl]⟩
  · refine lv_iload_n hx hb dX5_text_22 rfl (lv_at hl 0 rfl) ?_
    refine lv_if_le (tgt := 34) hx hb dX5_text_23 (by decide) (fun c23 => absurd c23 (Int32.not_le.mpr hpos)) (fun c23 => ?_)
    refine lv_aload_n hx hb dX5_text_26 rfl (lv_at hl 2 rfl) ?_
    refine gfX5_10 hx hb hown hts hK hw 0 rfl rfl dX5_text_27 ?_
    refine lv_aload_n hx hb dX5_text_30 rfl (lv_at hl 1 rfl) ?_
    have hw := hw.pick (ws' := zOW x b t ik fd ++ ((zTW x (t 0) S l0 ++ zTW x (t 1) T2 1000) ++ (zTW x (t 2) K l2 ++ (zPW x b tb (upd tq2 0 0) ++ (zSH x (b 5) (b 9) (bo 0) (so 0) (nn 0) ++ (zSH x (b 6) (b 10) (bo 1) (so 1) (nn 1) ++ (zSH x (b 7) (b 11) (bo 2) (so 2) (nn 2) ++ zSH x (b 8) (b 12) (bo 3) (so 3) (nn 3)))))))) [0, 1, 2, 3, 4, 5, 6, 7, 8, 9, 10, 11, 12, 13, 14, 15, 16, 17, 18, 19, 20, 21, 22, 23, 24, 25, 26, 27, 28, 29, 30, 31, 32, 33, 34, 35, 36, 37, 38, 39] (by decide) rfl
    refine zcVmv (C1 := (zOW x b t ik fd)) (C2 := (zTW x (t 2) K l2 ++ (zPW x b tb (upd tq2 0 0) ++ (zSH x (b 5) (b 9) (bo 0) (so 0) (nn 0) ++ (zSH x (b 6) (b 10) (bo 1) (so 1) (nn 1) ++ (zSH x (b 7) (b 11) (bo 2) (so 2) (nn 2) ++ zSH x (b 8) (b 12) (bo 3) (so 3) (nn 3))))))) hx hb hml hown hts hl.1 hK hE hA lkX5_215 (c_X3_become x (t 0) (t 1) S T2 l0 1000) ⟨Nat.le_of_ble_eq_true rfl, Nat.le_of_ble_eq_true rfl⟩ ⟨Nat.zero_le _, Nat.zero_le _⟩ hw 0 2 rfl rfl rfl rfl (Nat.le_of_ble_eq_true rfl) dX5_text_31 (fun H locs hw => ?_)
    have hw : zHw x A s.heap (zHW x b t T2 1000 T2 1000 K l2 ik fd tb (upd tq2 0 0) bo so nn) H locs := hw.pick [0, 1, 2, 3, 4, 5, 6, 7, 8, 9, 10, 11, 12, 13, 14, 15, 16, 17, 18, 19, 20, 21, 22, 23, 24, 25, 26, 27, 28, 29, 30, 31, 32, 33, 34, 35, 36, 37, 38, 39] (by decide) rfl
    refine lv_iload_n hx hb dX5_text_34 rfl (lv_at hl 0 rfl) ?_
    exact zFG.iret hx hb hr hlocks hQ hw rfl dX5_text_35 ⟨rfl, 1000, T2, 1000, upd tq2 0 0, rfl, by rw [show (zm_text tb n S).2 = T2 from by unfold zm_text; rw [hsome]; exact (hT2 _ hsome).symm]⟩
