set_option maxHeartbeats 4000000 in
set_option maxRecDepth 100000 in
theorem c_X5_found (x : zX) (b : Nat → Nat) (t : Nat → Nat → Nat) (S : zT) (l0 : Int32) (T : zT) (l1 : Int32) (K : zT) (l2 ik : Int32) (fd tb tq bo so : Nat → Int32) (nn : Nat → Nat → Int64) (v : Int32) (j : Nat) (hj : j < 7) (hv : -1000000001 - v = nI j) : zFF x mX5_found 0 [.ref (b 0), .int v] (zHW x b t S l0 T l1 K l2 ik fd tb tq bo so nn) (some (.int v)) (zHW x b t S l0 T l1 K l2 ik (upd fd j (fd j + 1)) tb tq bo so nn) := by
  refine zFG.start RX5 cX5_found 3 (some .int) rfl rfl (by decide +kernel) (Nat.le_of_ble_eq_true rfl) ?_
  intro p e s m ar below meth c ls A Q hx hb hr hml hown hts hlocks hK hE hA hQ hl hw
  have hl : lv_has ls 3 [(0, .ref (b 0)), (1, .int v)] := hl
  have hw : zHw x A s.heap (zHW x b t S l0 T l1 K l2 ik fd tb tq bo so nn) s.heap [] := hw
  refine lv_ldc (v := (-1000000001)) hx hb hown (hts _ ckX5_51) dX5_found_0 ?_
  refine lv_iload_n hx hb dX5_found_2 rfl (lv_at hl 1 rfl) ?_
  refine lv_isub hx hb dX5_found_3 ?_
  refine lv_istore_n (lv' := [(2, .int ((-1000000001) - v)), (0, .ref (b 0)), (1, .int v)]) hx hb dX5_found_4 rfl hl (by decide) rfl (fun ls hl => ?_)
  have hl : lv_has ls 3 [(2, .int (nI j)), (0, .ref (b 0)), (1, .int v)] := by
    rw [show nI j = (-1000000001) - v from hv.symm]; exact hl
  refine lv_iload_n hx hb dX5_found_5 rfl (lv_at hl 0 rfl) ?_
  refine lv_if_lt (tgt := 25) hx hb dX5_found_6 (by decide) (fun c6 => absurd c6 (nI_pos (by omega))) (fun c6 => ?_)
  refine lv_iload_n hx hb dX5_found_9 rfl (lv_at hl 0 rfl) ?_
  refine lv_bipush (v := 7) hx hb dX5_found_10 (by decide) ?_
  refine lv_icmp_ge (tgt := 25) hx hb dX5_found_12 (by decide) (fun c12 => absurd c12 (nI_ge (a := j) (b := 7) hj (by decide))) (fun c12 => ?_)
  refine lv_aload_n hx hb dX5_found_15 rfl (lv_at hl 1 rfl) ?_
  refine gfX5_39 hx hb hown hts hK hw 0 rfl rfl dX5_found_16 ?_
  refine lv_iload_n hx hb dX5_found_19 rfl (lv_at hl 0 rfl) ?_
  refine lv_dup2_11 hx hb dX5_found_20 rfl rfl ?_
  refine zial hx hb hK hw 1 0 j rfl rfl rfl (by omega) (by decide) dX5_found_21 ?_
  refine lv_iconst (v := 1) hx hb dX5_found_22 (by decide) ?_
  refine lv_iadd hx hb dX5_found_23 ?_
  refine zias hx hb hK hw 1 0 j rfl rfl rfl (by omega) (by decide) dX5_found_24 (fun H locs hw => ?_)
  have hw : zHw x A s.heap (zHW x b t S l0 T l1 K l2 ik (upd fd j ((fd j) + 1)) tb tq bo so nn) H locs := hw
  refine lv_iload_n hx hb dX5_found_25 rfl (lv_at hl 2 rfl) ?_
  exact zFG.iret hx hb hr hlocks hQ hw rfl dX5_found_26 ⟨rfl, rfl⟩

set_option maxHeartbeats 4000000 in
set_option maxRecDepth 100000 in
theorem c_X5_put_1 (x : zX) (t : Nat → Nat) (S : zT) (lk : Int32) (j : Nat) (v : Int32) (hj : j < 6) : zFF x mX5_put 0 [.ref (t 1), .int (nI j), .int v] (zTW x t S lk) (some (.int (S 1 j))) (zTW x t (zU S 1 j v) lk) := by
  refine zFG.start RX5 cX5_put 4 (some .int) rfl rfl (by decide +kernel) (Nat.le_of_ble_eq_true rfl) ?_
  intro p e s m ar below meth c ls A Q hx hb hr hml hown hts hlocks hK hE hA hQ hl hw
  have hl : lv_has ls 4 [(0, .ref (t 1)), (1, .int (nI j)), (2, .int v)] := hl
  have hw : zHw x A s.heap (zTW x t S lk) s.heap [] := hw
  refine lv_aload_n hx hb dX5_put_0 rfl (lv_at hl 0 rfl) ?_
  refine lv_iload_n hx hb dX5_put_1 rfl (lv_at hl 1 rfl) ?_
  refine zial hx hb hK hw 1 0 j rfl rfl rfl (by omega) (by decide) dX5_put_2 ?_
  refine lv_istore_n (lv' := [(3, .int ((S 1) j)), (0, .ref (t 1)), (1, .int (nI j)), (2, .int v)]) hx hb dX5_put_3 rfl hl (by decide) rfl (fun ls hl => ?_)
  refine lv_aload_n hx hb dX5_put_4 rfl (lv_at hl 1 rfl) ?_
  refine lv_iload_n hx hb dX5_put_5 rfl (lv_at hl 2 rfl) ?_
  refine lv_iload_n hx hb dX5_put_6 rfl (lv_at hl 3 rfl) ?_
  refine zias hx hb hK hw 1 0 j rfl rfl rfl (by omega) (by decide) dX5_put_7 (fun H locs hw => ?_)
  have hw : zHw x A s.heap (zTW x t (zU S 1 j v) lk) H locs := hw
  refine lv_iload_n hx hb dX5_put_8 rfl (lv_at hl 0 rfl) ?_
  exact zFG.iret hx hb hr hlocks hQ hw rfl dX5_put_9 ⟨rfl, rfl⟩

set_option maxHeartbeats 4000000 in
set_option maxRecDepth 100000 in
theorem c_X5_put_2 (x : zX) (t : Nat → Nat) (S : zT) (lk : Int32) (j : Nat) (v : Int32) (hj : j < 6) : zFF x mX5_put 0 [.ref (t 2), .int (nI j), .int v] (zTW x t S lk) (some (.int (S 2 j))) (zTW x t (zU S 2 j v) lk) := by
  refine zFG.start RX5 cX5_put 4 (some .int) rfl rfl (by decide +kernel) (Nat.le_of_ble_eq_true rfl) ?_
  intro p e s m ar below meth c ls A Q hx hb hr hml hown hts hlocks hK hE hA hQ hl hw
  have hl : lv_has ls 4 [(0, .ref (t 2)), (1, .int (nI j)), (2, .int v)] := hl
  have hw : zHw x A s.heap (zTW x t S lk) s.heap [] := hw
  refine lv_aload_n hx hb dX5_put_0 rfl (lv_at hl 0 rfl) ?_
  refine lv_iload_n hx hb dX5_put_1 rfl (lv_at hl 1 rfl) ?_
  refine zial hx hb hK hw 2 0 j rfl rfl rfl (by omega) (by decide) dX5_put_2 ?_
  refine lv_istore_n (lv' := [(3, .int ((S 2) j)), (0, .ref (t 2)), (1, .int (nI j)), (2, .int v)]) hx hb dX5_put_3 rfl hl (by decide) rfl (fun ls hl => ?_)
  refine lv_aload_n hx hb dX5_put_4 rfl (lv_at hl 1 rfl) ?_
  refine lv_iload_n hx hb dX5_put_5 rfl (lv_at hl 2 rfl) ?_
  refine lv_iload_n hx hb dX5_put_6 rfl (lv_at hl 3 rfl) ?_
  refine zias hx hb hK hw 2 0 j rfl rfl rfl (by omega) (by decide) dX5_put_7 (fun H locs hw => ?_)
  have hw : zHw x A s.heap (zTW x t (zU S 2 j v) lk) H locs := hw
  refine lv_iload_n hx hb dX5_put_8 rfl (lv_at hl 0 rfl) ?_
  exact zFG.iret hx hb hr hlocks hQ hw rfl dX5_put_9 ⟨rfl, rfl⟩

set_option maxHeartbeats 4000000 in
set_option maxRecDepth 100000 in
theorem c_X5_put_3 (x : zX) (t : Nat → Nat) (S : zT) (lk : Int32) (j : Nat) (v : Int32) (hj : j < 8) : zFF x mX5_put 0 [.ref (t 3), .int (nI j), .int v] (zTW x t S lk) (some (.int (S 3 j))) (zTW x t (zU S 3 j v) lk) := by
  refine zFG.start RX5 cX5_put 4 (some .int) rfl rfl (by decide +kernel) (Nat.le_of_ble_eq_true rfl) ?_
  intro p e s m ar below meth c ls A Q hx hb hr hml hown hts hlocks hK hE hA hQ hl hw
  have hl : lv_has ls 4 [(0, .ref (t 3)), (1, .int (nI j)), (2, .int v)] := hl
  have hw : zHw x A s.heap (zTW x t S lk) s.heap [] := hw
  refine lv_aload_n hx hb dX5_put_0 rfl (lv_at hl 0 rfl) ?_
  refine lv_iload_n hx hb dX5_put_1 rfl (lv_at hl 1 rfl) ?_
  refine zial hx hb hK hw 3 0 j rfl rfl rfl (by omega) (by decide) dX5_put_2 ?_
  refine lv_istore_n (lv' := [(3, .int ((S 3) j)), (0, .ref (t 3)), (1, .int (nI j)), (2, .int v)]) hx hb dX5_put_3 rfl hl (by decide) rfl (fun ls hl => ?_)
  refine lv_aload_n hx hb dX5_put_4 rfl (lv_at hl 1 rfl) ?_
  refine lv_iload_n hx hb dX5_put_5 rfl (lv_at hl 2 rfl) ?_
  refine lv_iload_n hx hb dX5_put_6 rfl (lv_at hl 3 rfl) ?_
  refine zias hx hb hK hw 3 0 j rfl rfl rfl (by omega) (by decide) dX5_put_7 (fun H locs hw => ?_)
  have hw : zHw x A s.heap (zTW x t (zU S 3 j v) lk) H locs := hw
  refine lv_iload_n hx hb dX5_put_8 rfl (lv_at hl 0 rfl) ?_
  exact zFG.iret hx hb hr hlocks hQ hw rfl dX5_put_9 ⟨rfl, rfl⟩

set_option maxHeartbeats 4000000 in
set_option maxRecDepth 100000 in
theorem c_X5_put_4 (x : zX) (t : Nat → Nat) (S : zT) (lk : Int32) (j : Nat) (v : Int32) (hj : j < 8) : zFF x mX5_put 0 [.ref (t 4), .int (nI j), .int v] (zTW x t S lk) (some (.int (S 4 j))) (zTW x t (zU S 4 j v) lk) := by
  refine zFG.start RX5 cX5_put 4 (some .int) rfl rfl (by decide +kernel) (Nat.le_of_ble_eq_true rfl) ?_
  intro p e s m ar below meth c ls A Q hx hb hr hml hown hts hlocks hK hE hA hQ hl hw
  have hl : lv_has ls 4 [(0, .ref (t 4)), (1, .int (nI j)), (2, .int v)] := hl
  have hw : zHw x A s.heap (zTW x t S lk) s.heap [] := hw
  refine lv_aload_n hx hb dX5_put_0 rfl (lv_at hl 0 rfl) ?_
  refine lv_iload_n hx hb dX5_put_1 rfl (lv_at hl 1 rfl) ?_
  refine zial hx hb hK hw 4 0 j rfl rfl rfl (by omega) (by decide) dX5_put_2 ?_
  refine lv_istore_n (lv' := [(3, .int ((S 4) j)), (0, .ref (t 4)), (1, .int (nI j)), (2, .int v)]) hx hb dX5_put_3 rfl hl (by decide) rfl (fun ls hl => ?_)
  refine lv_aload_n hx hb dX5_put_4 rfl (lv_at hl 1 rfl) ?_
  refine lv_iload_n hx hb dX5_put_5 rfl (lv_at hl 2 rfl) ?_
  refine lv_iload_n hx hb dX5_put_6 rfl (lv_at hl 3 rfl) ?_
  refine zias hx hb hK hw 4 0 j rfl rfl rfl (by omega) (by decide) dX5_put_7 (fun H locs hw => ?_)
  have hw : zHw x A s.heap (zTW x t (zU S 4 j v) lk) H locs := hw
  refine lv_iload_n hx hb dX5_put_8 rfl (lv_at hl 0 rfl) ?_
  exact zFG.iret hx hb hr hlocks hQ hw rfl dX5_put_9 ⟨rfl, rfl⟩

set_option maxHeartbeats 4000000 in
set_option maxRecDepth 100000 in
theorem c_X5_put_5 (x : zX) (t : Nat → Nat) (S : zT) (lk : Int32) (j : Nat) (v : Int32) (hj : j < 8) : zFF x mX5_put 0 [.ref (t 5), .int (nI j), .int v] (zTW x t S lk) (some (.int (S 5 j))) (zTW x t (zU S 5 j v) lk) := by
  refine zFG.start RX5 cX5_put 4 (some .int) rfl rfl (by decide +kernel) (Nat.le_of_ble_eq_true rfl) ?_
  intro p e s m ar below meth c ls A Q hx hb hr hml hown hts hlocks hK hE hA hQ hl hw
  have hl : lv_has ls 4 [(0, .ref (t 5)), (1, .int (nI j)), (2, .int v)] := hl
  have hw : zHw x A s.heap (zTW x t S lk) s.heap [] := hw
  refine lv_aload_n hx hb dX5_put_0 rfl (lv_at hl 0 rfl) ?_
  refine lv_iload_n hx hb dX5_put_1 rfl (lv_at hl 1 rfl) ?_
  refine zial hx hb hK hw 5 0 j rfl rfl rfl (by omega) (by decide) dX5_put_2 ?_
  refine lv_istore_n (lv' := [(3, .int ((S 5) j)), (0, .ref (t 5)), (1, .int (nI j)), (2, .int v)]) hx hb dX5_put_3 rfl hl (by decide) rfl (fun ls hl => ?_)
  refine lv_aload_n hx hb dX5_put_4 rfl (lv_at hl 1 rfl) ?_
  refine lv_iload_n hx hb dX5_put_5 rfl (lv_at hl 2 rfl) ?_
  refine lv_iload_n hx hb dX5_put_6 rfl (lv_at hl 3 rfl) ?_
  refine zias hx hb hK hw 5 0 j rfl rfl rfl (by omega) (by decide) dX5_put_7 (fun H locs hw => ?_)
  have hw : zHw x A s.heap (zTW x t (zU S 5 j v) lk) H locs := hw
  refine lv_iload_n hx hb dX5_put_8 rfl (lv_at hl 0 rfl) ?_
  exact zFG.iret hx hb hr hlocks hQ hw rfl dX5_put_9 ⟨rfl, rfl⟩

set_option maxHeartbeats 4000000 in
set_option maxRecDepth 100000 in
theorem c_X5_put_6 (x : zX) (t : Nat → Nat) (S : zT) (lk : Int32) (j : Nat) (v : Int32) (hj : j < 8) : zFF x mX5_put 0 [.ref (t 6), .int (nI j), .int v] (zTW x t S lk) (some (.int (S 6 j))) (zTW x t (zU S 6 j v) lk) := by
  refine zFG.start RX5 cX5_put 4 (some .int) rfl rfl (by decide +kernel) (Nat.le_of_ble_eq_true rfl) ?_
  intro p e s m ar below meth c ls A Q hx hb hr hml hown hts hlocks hK hE hA hQ hl hw
  have hl : lv_has ls 4 [(0, .ref (t 6)), (1, .int (nI j)), (2, .int v)] := hl
  have hw : zHw x A s.heap (zTW x t S lk) s.heap [] := hw
  refine lv_aload_n hx hb dX5_put_0 rfl (lv_at hl 0 rfl) ?_
  refine lv_iload_n hx hb dX5_put_1 rfl (lv_at hl 1 rfl) ?_
  refine zial hx hb hK hw 6 0 j rfl rfl rfl (by omega) (by decide) dX5_put_2 ?_
  refine lv_istore_n (lv' := [(3, .int ((S 6) j)), (0, .ref (t 6)), (1, .int (nI j)), (2, .int v)]) hx hb dX5_put_3 rfl hl (by decide) rfl (fun ls hl => ?_)
  refine lv_aload_n hx hb dX5_put_4 rfl (lv_at hl 1 rfl) ?_
  refine lv_iload_n hx hb dX5_put_5 rfl (lv_at hl 2 rfl) ?_
  refine lv_iload_n hx hb dX5_put_6 rfl (lv_at hl 3 rfl) ?_
  refine zias hx hb hK hw 6 0 j rfl rfl rfl (by omega) (by decide) dX5_put_7 (fun H locs hw => ?_)
  have hw : zHw x A s.heap (zTW x t (zU S 6 j v) lk) H locs := hw
  refine lv_iload_n hx hb dX5_put_8 rfl (lv_at hl 0 rfl) ?_
  exact zFG.iret hx hb hr hlocks hQ hw rfl dX5_put_9 ⟨rfl, rfl⟩

set_option maxHeartbeats 4000000 in
set_option maxRecDepth 100000 in
theorem c_X5_put_7 (x : zX) (t : Nat → Nat) (S : zT) (lk : Int32) (j : Nat) (v : Int32) (hj : j < 8) : zFF x mX5_put 0 [.ref (t 7), .int (nI j), .int v] (zTW x t S lk) (some (.int (S 7 j))) (zTW x t (zU S 7 j v) lk) := by
  refine zFG.start RX5 cX5_put 4 (some .int) rfl rfl (by decide +kernel) (Nat.le_of_ble_eq_true rfl) ?_
  intro p e s m ar below meth c ls A Q hx hb hr hml hown hts hlocks hK hE hA hQ hl hw
  have hl : lv_has ls 4 [(0, .ref (t 7)), (1, .int (nI j)), (2, .int v)] := hl
  have hw : zHw x A s.heap (zTW x t S lk) s.heap [] := hw
  refine lv_aload_n hx hb dX5_put_0 rfl (lv_at hl 0 rfl) ?_
  refine lv_iload_n hx hb dX5_put_1 rfl (lv_at hl 1 rfl) ?_
  refine zial hx hb hK hw 7 0 j rfl rfl rfl (by omega) (by decide) dX5_put_2 ?_
  refine lv_istore_n (lv' := [(3, .int ((S 7) j)), (0, .ref (t 7)), (1, .int (nI j)), (2, .int v)]) hx hb dX5_put_3 rfl hl (by decide) rfl (fun ls hl => ?_)
  refine lv_aload_n hx hb dX5_put_4 rfl (lv_at hl 1 rfl) ?_
  refine lv_iload_n hx hb dX5_put_5 rfl (lv_at hl 2 rfl) ?_
  refine lv_iload_n hx hb dX5_put_6 rfl (lv_at hl 3 rfl) ?_
  refine zias hx hb hK hw 7 0 j rfl rfl rfl (by omega) (by decide) dX5_put_7 (fun H locs hw => ?_)
  have hw : zHw x A s.heap (zTW x t (zU S 7 j v) lk) H locs := hw
  refine lv_iload_n hx hb dX5_put_8 rfl (lv_at hl 0 rfl) ?_
  exact zFG.iret hx hb hr hlocks hQ hw rfl dX5_put_9 ⟨rfl, rfl⟩

set_option maxHeartbeats 4000000 in
set_option maxRecDepth 100000 in
theorem c_X5_put_8 (x : zX) (t : Nat → Nat) (S : zT) (lk : Int32) (j : Nat) (v : Int32) (hj : j < 8) : zFF x mX5_put 0 [.ref (t 8), .int (nI j), .int v] (zTW x t S lk) (some (.int (S 8 j))) (zTW x t (zU S 8 j v) lk) := by
  refine zFG.start RX5 cX5_put 4 (some .int) rfl rfl (by decide +kernel) (Nat.le_of_ble_eq_true rfl) ?_
  intro p e s m ar below meth c ls A Q hx hb hr hml hown hts hlocks hK hE hA hQ hl hw
  have hl : lv_has ls 4 [(0, .ref (t 8)), (1, .int (nI j)), (2, .int v)] := hl
  have hw : zHw x A s.heap (zTW x t S lk) s.heap [] := hw
  refine lv_aload_n hx hb dX5_put_0 rfl (lv_at hl 0 rfl) ?_
  refine lv_iload_n hx hb dX5_put_1 rfl (lv_at hl 1 rfl) ?_
  refine zial hx hb hK hw 8 0 j rfl rfl rfl (by omega) (by decide) dX5_put_2 ?_
  refine lv_istore_n (lv' := [(3, .int ((S 8) j)), (0, .ref (t 8)), (1, .int (nI j)), (2, .int v)]) hx hb dX5_put_3 rfl hl (by decide) rfl (fun ls hl => ?_)
  refine lv_aload_n hx hb dX5_put_4 rfl (lv_at hl 1 rfl) ?_
  refine lv_iload_n hx hb dX5_put_5 rfl (lv_at hl 2 rfl) ?_
  refine lv_iload_n hx hb dX5_put_6 rfl (lv_at hl 3 rfl) ?_
  refine zias hx hb hK hw 8 0 j rfl rfl rfl (by omega) (by decide) dX5_put_7 (fun H locs hw => ?_)
  have hw : zHw x A s.heap (zTW x t (zU S 8 j v) lk) H locs := hw
  refine lv_iload_n hx hb dX5_put_8 rfl (lv_at hl 0 rfl) ?_
  exact zFG.iret hx hb hr hlocks hQ hw rfl dX5_put_9 ⟨rfl, rfl⟩

set_option maxHeartbeats 4000000 in
set_option maxRecDepth 100000 in
theorem c_X5_asItIs (x : zX) (b : Nat → Nat) (t : Nat → Nat → Nat) (S : zT) (l0 : Int32) (T : zT) (l1 : Int32) (K : zT) (l2 ik : Int32) (fd tb tq bo so : Nat → Int32) (nn : Nat → Nat → Int64) : zFF x mX5_asItIs 2 [.ref (b 0)] (zHW x b t S l0 T l1 K l2 ik fd tb tq bo so nn) (some (.ref ((t 1) 0))) (zHW x b t S l0 S 1000 K l2 ik fd tb tq bo so nn) := by
  refine zFG.start RX5 cX5_asItIs 1 (some (.object "HoleFills$Town")) rfl rfl (by decide +kernel) (Nat.le_of_ble_eq_true rfl) ?_
  intro p e s m ar below meth c ls A Q hx hb hr hml hown hts hlocks hK hE hA hQ hl hw
  have hl : lv_has ls 1 [(0, .ref (b 0))] := hl
  have hw : zHw x A s.heap (zHW x b t S l0 T l1 K l2 ik fd tb tq bo so nn) s.heap [] := hw
  refine lv_aload_n hx hb dX5_asItIs_0 rfl (lv_at hl 0 rfl) ?_
  refine gfX5_16 hx hb hown hts hK hw 0 rfl rfl dX5_asItIs_1 ?_
  refine lv_aload_n hx hb dX5_asItIs_4 rfl (lv_at hl 0 rfl) ?_
  refine gfX5_10 hx hb hown hts hK hw 0 rfl rfl dX5_asItIs_5 ?_
  have hw := hw.pick (ws' := zOW x b t ik fd ++ ((zTW x (t 1) T l1 ++ zTW x (t 0) S l0) ++ (zTW x (t 2) K l2 ++ (zPW x b tb tq ++ (zSH x (b 5) (b 9) (bo 0) (so 0) (nn 0) ++ (zSH x (b 6) (b 10) (bo 1) (so 1) (nn 1) ++ (zSH x (b 7) (b 11) (bo 2) (so 2) (nn 2) ++ zSH x (b 8) (b 12) (bo 3) (so 3) (nn 3)))))))) [0, 1, 2, 12, 13, 14, 15, 16, 17, 18, 19, 20, 3, 4, 5, 6, 7, 8, 9, 10, 11, 21, 22, 23, 24, 25, 26, 27, 28, 29, 30, 31, 32, 33, 34, 35, 36, 37, 38, 39] (by decide) rfl
  refine zcVmv (C1 := (zOW x b t ik fd)) (C2 := (zTW x (t 2) K l2 ++ (zPW x b tb tq ++ (zSH x (b 5) (b 9) (bo 0) (so 0) (nn 0) ++ (zSH x (b 6) (b 10) (bo 1) (so 1) (nn 1) ++ (zSH x (b 7) (b 11) (bo 2) (so 2) (nn 2) ++ zSH x (b 8) (b 12) (bo 3) (so 3) (nn 3))))))) hx hb hml hown hts hl.1 hK hE hA lkX5_215 (c_X3_become x (t 1) (t 0) T S l1 l0) ⟨Nat.le_of_ble_eq_true rfl, Nat.le_of_ble_eq_true rfl⟩ ⟨Nat.zero_le _, Nat.zero_le _⟩ hw 0 2 rfl rfl rfl rfl (Nat.le_of_ble_eq_true rfl) dX5_asItIs_8 (fun H locs hw => ?_)
  have hw : zHw x A s.heap (zHW x b t S l0 S 1000 K l2 ik fd tb tq bo so nn) H locs := hw.pick [0, 1, 2, 12, 13, 14, 15, 16, 17, 18, 19, 20, 3, 4, 5, 6, 7, 8, 9, 10, 11, 21, 22, 23, 24, 25, 26, 27, 28, 29, 30, 31, 32, 33, 34, 35, 36, 37, 38, 39] (by decide) rfl
  refine lv_aload_n hx hb dX5_asItIs_11 rfl (lv_at hl 0 rfl) ?_
  refine gfX5_16 hx hb hown hts hK hw 0 rfl rfl dX5_asItIs_12 ?_
  exact zFG.aret hx hb hr (by first | exact Or.inl ⟨_, rfl⟩ | exact Or.inr ⟨_, rfl⟩) (by first | exact Or.inl rfl | exact Or.inr ⟨_, rfl⟩) hlocks hQ hw rfl dX5_asItIs_15 ⟨rfl, rfl⟩

set_option maxHeartbeats 4000000 in
set_option maxRecDepth 100000 in
theorem c_X5_town (x : zX) (b : Nat → Nat) (t : Nat → Nat → Nat) (S : zT) (l0 : Int32) (T : zT) (l1 : Int32) (K : zT) (l2 ik : Int32) (fd tb tq bo so : Nat → Int32) (nn : Nat → Nat → Int64) (w v : Int32) (hI : zInv S) : zFG x mX5_town 1 [.ref (b 0), .int w, .int v] (zHW x b t S l0 T l1 K l2 ik fd tb tq bo so nn) (zPH x b t K l2 ik tb tq bo so nn (zm_town S fd w v)) := by
  refine zFG.start RX5 cX5_town 3 (some .int) rfl rfl (by decide +kernel) (Nat.le_of_ble_eq_true rfl) ?_
  intro p e s m ar below meth c ls A Q hx hb hr hml hown hts hlocks hK hE hA hQ hl hw
  have hl : lv_has ls 3 [(0, .ref (b 0)), (1, .int w), (2, .int v)] := hl
  have hw : zHw x A s.heap (zHW x b t S l0 T l1 K l2 ik fd tb tq bo so nn) s.heap [] := hw
  refine lv_iload_n hx hb dX5_town_0 rfl (lv_at hl 1 rfl) ?_
  refine lv_iconst (v := 0) hx hb dX5_town_1 (by decide) ?_
  refine lv_iconst (v := 3) hx hb dX5_town_2 (by decide) ?_
  refine zcSwi (r := zb (0 ≤ w ∧ w ≤ 3)) hx hb hml hown hts hl.1 hK hE hA lkX5_44 (c_X5_within x (zHW x b t S l0 T l1 K l2 ik fd tb tq bo so nn) w 0 3) ⟨Nat.le_of_ble_eq_true rfl, Nat.le_of_ble_eq_true rfl⟩ ⟨Nat.zero_le _, Nat.zero_le _⟩ hw rfl rfl (Nat.le_of_ble_eq_true rfl) dX5_town_3 (fun H locs hw => ?_)
  have hw : zHw x A s.heap (zHW x b t S l0 T l1 K l2 ik fd tb tq bo so nn) H locs := hw
  refine lv_if_eq (tgt := 22) hx hb dX5_town_6 (by decide) (fun c6 => ?_) (fun c6 => ?_)
  · have c6 := zb_0.mp c6
    refine lv_aload_n hx hb dX5_town_22 rfl (lv_at hl 0 rfl) ?_
    refine lv_ldc (v := (-1000000001)) hx hb hown (hts _ ckX5_51) dX5_town_23 ?_
    refine zcVwi (r := (-1000000001)) hx hb hml hown hts hl.1 hK hE hA lkX5_52 (c_X5_found x b t S l0 T l1 K l2 ik fd tb tq bo so nn (-1000000001) 0 (by decide) (by decide)) ⟨Nat.le_of_ble_eq_true rfl, Nat.le_of_ble_eq_true rfl⟩ ⟨Nat.zero_le _, Nat.zero_le _⟩ hw 0 3 rfl rfl rfl rfl (Nat.le_of_ble_eq_true rfl) dX5_town_25 (fun H locs hw => ?_)
    have hw : zHw x A s.heap (zHW x b t S l0 T l1 K l2 ik (upd fd 0 (fd 0 + 1)) tb tq bo so nn) H locs := hw
    exact zFG.iret hx hb hr hlocks hQ hw rfl dX5_town_28 (zPH.mk (r := zm_town S fd w v) (v := (-1000000001)) (S' := S) (fd' := zFd fd 0) (by unfold zm_town; first | (rw [if_neg (fun h => c19 h.2)]; rfl) | (rw [if_neg (fun h => c6 h.1)]; rfl)))
  · have c6 := zb_n0.mp c6
    obtain ⟨j, hj, rfl⟩ := zBw_nat (hi := 3) c6 (by decide) (by decide)
    refine lv_iload_n hx hb dX5_town_9 rfl (lv_at hl 2 rfl) ?_
    refine lv_iconst (v := 0) hx hb dX5_town_10 (by decide) ?_
    refine zgst0 hx hb hE hw hown hts dX5_town_11 ?_
    refine lv_iload_n hx hb dX5_town_14 rfl (lv_at hl 1 rfl) ?_
    refine zsta0 (v := ztopT (nI j)) hx hb hE hw j (by omega) (zMo_t j (by omega)) dX5_town_15 ?_
    refine zcSwi (r := zb (0 ≤ v ∧ v ≤ ztopT (nI j))) hx hb hml hown hts hl.1 hK hE hA lkX5_44 (c_X5_within x (zHW x b t S l0 T l1 K l2 ik fd tb tq bo so nn) v 0 (ztopT (nI j))) ⟨Nat.le_of_ble_eq_true rfl, Nat.le_of_ble_eq_true rfl⟩ ⟨Nat.zero_le _, Nat.zero_le _⟩ hw rfl rfl (Nat.le_of_ble_eq_true rfl) dX5_town_16 (fun H locs hw => ?_)
    have hw : zHw x A s.heap (zHW x b t S l0 T l1 K l2 ik fd tb tq bo so nn) H locs := hw
    refine lv_if_ne (tgt := 29) hx hb dX5_town_19 (by decide) (fun c19 => ?_) (fun c19 => ?_)
    · have c19 := zb_n0.mp c19
      refine lv_aload_n hx hb dX5_town_29 rfl (lv_at hl 0 rfl) ?_
      refine gfX5_10 hx hb hown hts hK hw 0 rfl rfl dX5_town_30 ?_
      refine lv_iload_n hx hb dX5_town_33 rfl (lv_at hl 1 rfl) ?_
      refine lv_iload_n hx hb dX5_town_34 rfl (lv_at hl 2 rfl) ?_
      refine zcVmi (r := S 0 (2 + j)) (C1 := (zOW x b t ik fd)) (C2 := (zTW x (t 1) T l1 ++ (zTW x (t 2) K l2 ++ (zPW x b tb tq ++ (zSH x (b 5) (b 9) (bo 0) (so 0) (nn 0) ++ (zSH x (b 6) (b 10) (bo 1) (so 1) (nn 1) ++ (zSH x (b 7) (b 11) (bo 2) (so 2) (nn 2) ++ zSH x (b 8) (b 12) (bo 3) (so 3) (nn 3)))))))) hx hb hml hown hts hl.1 hK hE hA lkX5_56 (c_X3_changeFigure x (t 0) S l0 j v (by omega)) ⟨Nat.le_of_ble_eq_true rfl, Nat.le_of_ble_eq_true rfl⟩ ⟨Nat.zero_le _, Nat.zero_le _⟩ hw 0 2 rfl rfl rfl rfl (Nat.le_of_ble_eq_true rfl) dX5_town_35 (fun H locs hw => ?_)
      have hw : zHw x A s.heap (zHW x b t (zU S 0 (2 + j) v) l0 T l1 K l2 ik fd tb tq bo so nn) H locs := hw
      exact zFG.iret hx hb hr hlocks hQ hw rfl dX5_town_38 (zPH.mk (r := zm_town S fd (nI j) v) (v := S 0 (2 + j)) (S' := zU S 0 (2 + j) v) (fd' := fd) (by unfold zm_town; rw [if_pos ⟨c6, c19⟩, zc_nI (show j < 2147483648 by omega)]))
    · have c19 := zb_0.mp c19
      refine lv_aload_n hx hb dX5_town_22 rfl (lv_at hl 0 rfl) ?_
      refine lv_ldc (v := (-1000000001)) hx hb hown (hts _ ckX5_51) dX5_town_23 ?_
      refine zcVwi (r := (-1000000001)) hx hb hml hown hts hl.1 hK hE hA lkX5_52 (c_X5_found x b t S l0 T l1 K l2 ik fd tb tq bo so nn (-1000000001) 0 (by decide) (by decide)) ⟨Nat.le_of_ble_eq_true rfl, Nat.le_of_ble_eq_true rfl⟩ ⟨Nat.zero_le _, Nat.zero_le _⟩ hw 0 3 rfl rfl rfl rfl (Nat.le_of_ble_eq_true rfl) dX5_town_25 (fun H locs hw => ?_)
      have hw : zHw x A s.heap (zHW x b t S l0 T l1 K l2 ik (upd fd 0 (fd 0 + 1)) tb tq bo so nn) H locs := hw
      exact zFG.iret hx hb hr hlocks hQ hw rfl dX5_town_28 (zPH.mk (r := zm_town S fd (nI j) v) (v := (-1000000001)) (S' := S) (fd' := zFd fd 0) (by unfold zm_town; first | (rw [if_neg (fun h => c19 h.2)]; rfl) | (rw [if_neg (fun h => c6 h.1)]; rfl)))

set_option maxHeartbeats 4000000 in
set_option maxRecDepth 100000 in
theorem c_X5_street (x : zX) (b : Nat → Nat) (t : Nat → Nat → Nat) (S : zT) (l0 : Int32) (T : zT) (l1 : Int32) (K : zT) (l2 ik : Int32) (fd tb tq bo so : Nat → Int32) (nn : Nat → Nat → Int64) (r w v : Int32) (hI : zInv S) : zFG x mX5_street 1 [.ref (b 0), .int r, .int w, .int v] (zHW x b t S l0 T l1 K l2 ik fd tb tq bo so nn) (zPH x b t K l2 ik tb tq bo so nn (zm_street S fd r w v)) := by
  refine zFG.start RX5 cX5_street 4 (some .int) rfl rfl (by decide +kernel) (Nat.le_of_ble_eq_true rfl) ?_
  intro p e s m ar below meth c ls A Q hx hb hr hml hown hts hlocks hK hE hA hQ hl hw
  have hl : lv_has ls 4 [(0, .ref (b 0)), (1, .int r), (2, .int w), (3, .int v)] := hl
  have hw : zHw x A s.heap (zHW x b t S l0 T l1 K l2 ik fd tb tq bo so nn) s.heap [] := hw
  refine lv_iload_n hx hb dX5_street_0 rfl (lv_at hl 1 rfl) ?_
  refine zcSwi (r := zb (0 ≤ r ∧ r < 6)) hx hb hml hown hts hl.1 hK hE hA lkX5_60 (c_X5_isStreet x (zHW x b t S l0 T l1 K l2 ik fd tb tq bo so nn) r) ⟨Nat.le_of_ble_eq_true rfl, Nat.le_of_ble_eq_true rfl⟩ ⟨Nat.zero_le _, Nat.zero_le _⟩ hw rfl rfl (Nat.le_of_ble_eq_true rfl) dX5_street_1 (fun H locs hw => ?_)
  have hw : zHw x A s.heap (zHW x b t S l0 T l1 K l2 ik fd tb tq bo so nn) H locs := hw
  refine lv_if_eq (tgt := 29) hx hb dX5_street_4 (by decide) (fun c4 => ?_) (fun c4 => ?_)
  · have c4 := zb_0.mp c4
    refine lv_aload_n hx hb dX5_street_29 rfl (lv_at hl 0 rfl) ?_
    refine lv_ldc (v := (-1000000001)) hx hb hown (hts _ ckX5_51) dX5_street_30 ?_
    refine zcVwi (r := (-1000000001)) hx hb hml hown hts hl.1 hK hE hA lkX5_52 (c_X5_found x b t S l0 T l1 K l2 ik fd tb tq bo so nn (-1000000001) 0 (by decide) (by decide)) ⟨Nat.le_of_ble_eq_true rfl, Nat.le_of_ble_eq_true rfl⟩ ⟨Nat.zero_le _, Nat.zero_le _⟩ hw 0 3 rfl rfl rfl rfl (Nat.le_of_ble_eq_true rfl) dX5_street_32 (fun H locs hw => ?_)
    have hw : zHw x A s.heap (zHW x b t S l0 T l1 K l2 ik (upd fd 0 (fd 0 + 1)) tb tq bo so nn) H locs := hw
    exact zFG.iret hx hb hr hlocks hQ hw rfl dX5_street_35 (zPH.mk (r := zm_street S fd r w v) (v := (-1000000001)) (S' := S) (fd' := zFd fd 0) (by unfold zm_street; first | (rw [if_neg (fun h => c26 h.2.2)]; rfl) | (rw [if_neg (fun h => c13 h.2.1)]; rfl) | (rw [if_neg (fun h => c4 h.1)]; rfl)))
  · have c4 := zb_n0.mp c4
    obtain ⟨i, hi, rfl⟩ := z6_nat c4
    refine lv_iload_n hx hb dX5_street_7 rfl (lv_at hl 2 rfl) ?_
    refine lv_iconst (v := 0) hx hb dX5_street_8 (by decide) ?_
    refine lv_iconst (v := 1) hx hb dX5_street_9 (by decide) ?_
    refine zcSwi (r := zb (0 ≤ w ∧ w ≤ 1)) hx hb hml hown hts hl.1 hK hE hA lkX5_44 (c_X5_within x (zHW x b t S l0 T l1 K l2 ik fd tb tq bo so nn) w 0 1) ⟨Nat.le_of_ble_eq_true rfl, Nat.le_of_ble_eq_true rfl⟩ ⟨Nat.zero_le _, Nat.zero_le _⟩ hw rfl rfl (Nat.le_of_ble_eq_true rfl) dX5_street_10 (fun H locs hw => ?_)
    have hw : zHw x A s.heap (zHW x b t S l0 T l1 K l2 ik fd tb tq bo so nn) H locs := hw
    refine lv_if_eq (tgt := 29) hx hb dX5_street_13 (by decide) (fun c13 => ?_) (fun c13 => ?_)
    · have c13 := zb_0.mp c13
      refine lv_aload_n hx hb dX5_street_29 rfl (lv_at hl 0 rfl) ?_
      refine lv_ldc (v := (-1000000001)) hx hb hown (hts _ ckX5_51) dX5_street_30 ?_
      refine zcVwi (r := (-1000000001)) hx hb hml hown hts hl.1 hK hE hA lkX5_52 (c_X5_found x b t S l0 T l1 K l2 ik fd tb tq bo so nn (-1000000001) 0 (by decide) (by decide)) ⟨Nat.le_of_ble_eq_true rfl, Nat.le_of_ble_eq_true rfl⟩ ⟨Nat.zero_le _, Nat.zero_le _⟩ hw 0 3 rfl rfl rfl rfl (Nat.le_of_ble_eq_true rfl) dX5_street_32 (fun H locs hw => ?_)
      have hw : zHw x A s.heap (zHW x b t S l0 T l1 K l2 ik (upd fd 0 (fd 0 + 1)) tb tq bo so nn) H locs := hw
      exact zFG.iret hx hb hr hlocks hQ hw rfl dX5_street_35 (zPH.mk (r := zm_street S fd (nI i) w v) (v := (-1000000001)) (S' := S) (fd' := zFd fd 0) (by unfold zm_street; first | (rw [if_neg (fun h => c26 h.2.2)]; rfl) | (rw [if_neg (fun h => c13 h.2.1)]; rfl) | (rw [if_neg (fun h => c4 h.1)]; rfl)))
    · have c13 := zb_n0.mp c13
      obtain ⟨j, hj, rfl⟩ := zBw_nat (hi := 1) c13 (by decide) (by decide)
      refine lv_iload_n hx hb dX5_street_16 rfl (lv_at hl 3 rfl) ?_
      refine lv_iconst (v := 0) hx hb dX5_street_17 (by decide) ?_
      refine zgst1 hx hb hE hw hown hts dX5_street_18 ?_
      refine lv_iload_n hx hb dX5_street_21 rfl (lv_at hl 2 rfl) ?_
      refine zsta1 (v := if nI j = 0 then 99 else 1) hx hb hE hw j (by omega) (zMo_s j (by omega)) dX5_street_22 ?_
      refine zcSwi (r := zb (0 ≤ v ∧ v ≤ if nI j = 0 then 99 else 1)) hx hb hml hown hts hl.1 hK hE hA lkX5_44 (c_X5_within x (zHW x b t S l0 T l1 K l2 ik fd tb tq bo so nn) v 0 (if nI j = 0 then 99 else 1)) ⟨Nat.le_of_ble_eq_true rfl, Nat.le_of_ble_eq_true rfl⟩ ⟨Nat.zero_le _, Nat.zero_le _⟩ hw rfl rfl (Nat.le_of_ble_eq_true rfl) dX5_street_23 (fun H locs hw => ?_)
      have hw : zHw x A s.heap (zHW x b t S l0 T l1 K l2 ik fd tb tq bo so nn) H locs := hw
      refine lv_if_ne (tgt := 36) hx hb dX5_street_26 (by decide) (fun c26 => ?_) (fun c26 => ?_)
      · have c26 := zb_n0.mp c26
        refine lv_iload_n hx hb dX5_street_36 rfl (lv_at hl 2 rfl) ?_
        refine lv_if_ne (tgt := 50) hx hb dX5_street_37 (by decide) (fun c37 => ?_) (fun c37 => ?_)
        · have hj0 : j = 1 := by
            have h0 : ¬ j = 0 := fun e => c37 (by rw [e]; rfl)
            omega
          refine lv_aload_n hx hb dX5_street_50 rfl (lv_at hl 0 rfl) ?_
          refine gfX5_10 hx hb hown hts hK hw 0 rfl rfl dX5_street_51 ?_
          refine gfX5_70 hx hb hown hts hK hw 3 rfl rfl dX5_street_54 ?_
          refine lv_iload_n hx hb dX5_street_57 rfl (lv_at hl 1 rfl) ?_
          refine lv_iload_n hx hb dX5_street_58 rfl (lv_at hl 3 rfl) ?_
          refine zcSmi (r := S 2 i) (C1 := (zOW x b t ik fd)) (C2 := (zTW x (t 1) T l1 ++ (zTW x (t 2) K l2 ++ (zPW x b tb tq ++ (zSH x (b 5) (b 9) (bo 0) (so 0) (nn 0) ++ (zSH x (b 6) (b 10) (bo 1) (so 1) (nn 1) ++ (zSH x (b 7) (b 11) (bo 2) (so 2) (nn 2) ++ zSH x (b 8) (b 12) (bo 3) (so 3) (nn 3)))))))) hx hb hml hown hts hl.1 hK hE hA lkX5_73 (c_X5_put_2 x (t 0) S l0 i v (by omega)) ⟨Nat.le_of_ble_eq_true rfl, Nat.le_of_ble_eq_true rfl⟩ ⟨Nat.zero_le _, Nat.zero_le _⟩ hw rfl rfl (Nat.le_of_ble_eq_true rfl) dX5_street_59 (fun H locs hw => ?_)
          have hw : zHw x A s.heap (zHW x b t (zU S 2 i v) l0 T l1 K l2 ik fd tb tq bo so nn) H locs := hw
          exact zFG.iret hx hb hr hlocks hQ hw rfl dX5_street_62 (zPH.mk (r := zm_street S fd (nI i) (nI j) v) (v := S 2 i) (S' := zU S 2 i v) (fd' := fd) (by unfold zm_street; rw [if_pos ⟨c4, c13, c26⟩, zc_nI (show j < 2147483648 by omega), zc_nI (show i < 2147483648 by omega), hj0]))
        · have hj0 : j = 0 := (nI_eq (b := 0) (by omega) (by decide)).mp c37
          refine lv_aload_n hx hb dX5_street_40 rfl (lv_at hl 0 rfl) ?_
          refine gfX5_10 hx hb hown hts hK hw 0 rfl rfl dX5_street_41 ?_
          refine gfX5_67 hx hb hown hts hK hw 3 rfl rfl dX5_street_44 ?_
          refine lv_goto (tgt := 57) hx hb dX5_street_47 (by decide) ?_
          refine lv_iload_n hx hb dX5_street_57 rfl (lv_at hl 1 rfl) ?_
          refine lv_iload_n hx hb dX5_street_58 rfl (lv_at hl 3 rfl) ?_
          refine zcSmi (r := S 1 i) (C1 := (zOW x b t ik fd)) (C2 := (zTW x (t 1) T l1 ++ (zTW x (t 2) K l2 ++ (zPW x b tb tq ++ (zSH x (b 5) (b 9) (bo 0) (so 0) (nn 0) ++ (zSH x (b 6) (b 10) (bo 1) (so 1) (nn 1) ++ (zSH x (b 7) (b 11) (bo 2) (so 2) (nn 2) ++ zSH x (b 8) (b 12) (bo 3) (so 3) (nn 3)))))))) hx hb hml hown hts hl.1 hK hE hA lkX5_73 (c_X5_put_1 x (t 0) S l0 i v (by omega)) ⟨Nat.le_of_ble_eq_true rfl, Nat.le_of_ble_eq_true rfl⟩ ⟨Nat.zero_le _, Nat.zero_le _⟩ hw rfl rfl (Nat.le_of_ble_eq_true rfl) dX5_street_59 (fun H locs hw => ?_)
          have hw : zHw x A s.heap (zHW x b t (zU S 1 i v) l0 T l1 K l2 ik fd tb tq bo so nn) H locs := hw
          exact zFG.iret hx hb hr hlocks hQ hw rfl dX5_street_62 (zPH.mk (r := zm_street S fd (nI i) (nI j) v) (v := S 1 i) (S' := zU S 1 i v) (fd' := fd) (by unfold zm_street; rw [if_pos ⟨c4, c13, c26⟩, zc_nI (show j < 2147483648 by omega), zc_nI (show i < 2147483648 by omega), hj0]))
      · have c26 := zb_0.mp c26
        refine lv_aload_n hx hb dX5_street_29 rfl (lv_at hl 0 rfl) ?_
        refine lv_ldc (v := (-1000000001)) hx hb hown (hts _ ckX5_51) dX5_street_30 ?_
        refine zcVwi (r := (-1000000001)) hx hb hml hown hts hl.1 hK hE hA lkX5_52 (c_X5_found x b t S l0 T l1 K l2 ik fd tb tq bo so nn (-1000000001) 0 (by decide) (by decide)) ⟨Nat.le_of_ble_eq_true rfl, Nat.le_of_ble_eq_true rfl⟩ ⟨Nat.zero_le _, Nat.zero_le _⟩ hw 0 3 rfl rfl rfl rfl (Nat.le_of_ble_eq_true rfl) dX5_street_32 (fun H locs hw => ?_)
        have hw : zHw x A s.heap (zHW x b t S l0 T l1 K l2 ik (upd fd 0 (fd 0 + 1)) tb tq bo so nn) H locs := hw
        exact zFG.iret hx hb hr hlocks hQ hw rfl dX5_street_35 (zPH.mk (r := zm_street S fd (nI i) (nI j) v) (v := (-1000000001)) (S' := S) (fd' := zFd fd 0) (by unfold zm_street; first | (rw [if_neg (fun h => c26 h.2.2)]; rfl) | (rw [if_neg (fun h => c13 h.2.1)]; rfl) | (rw [if_neg (fun h => c4 h.1)]; rfl)))

set_option maxHeartbeats 4000000 in
set_option maxRecDepth 100000 in
theorem c_X5_streetOf (x : zX) (b : Nat → Nat) (t : Nat → Nat → Nat) (S : zT) (l0 : Int32) (T : zT) (l1 : Int32) (K : zT) (l2 ik : Int32) (fd tb tq bo so : Nat → Int32) (nn : Nat → Nat → Int64) (r w : Int32) (hI : zInv S) : zFG x mX5_streetOf 1 [.ref (b 0), .int r, .int w] (zHW x b t S l0 T l1 K l2 ik fd tb tq bo so nn) (zPH x b t K l2 ik tb tq bo so nn (zm_streetOf S fd r w)) := by
  refine zFG.start RX5 cX5_streetOf 3 (some .int) rfl rfl (by decide +kernel) (Nat.le_of_ble_eq_true rfl) ?_
  intro p e s m ar below meth c ls A Q hx hb hr hml hown hts hlocks hK hE hA hQ hl hw
  have hl : lv_has ls 3 [(0, .ref (b 0)), (1, .int r), (2, .int w)] := hl
  have hw : zHw x A s.heap (zHW x b t S l0 T l1 K l2 ik fd tb tq bo so nn) s.heap [] := hw
  refine lv_iload_n hx hb dX5_streetOf_0 rfl (lv_at hl 1 rfl) ?_
  refine zcSwi (r := zb (0 ≤ r ∧ r < 6)) hx hb hml hown hts hl.1 hK hE hA lkX5_60 (c_X5_isStreet x (zHW x b t S l0 T l1 K l2 ik fd tb tq bo so nn) r) ⟨Nat.le_of_ble_eq_true rfl, Nat.le_of_ble_eq_true rfl⟩ ⟨Nat.zero_le _, Nat.zero_le _⟩ hw rfl rfl (Nat.le_of_ble_eq_true rfl) dX5_streetOf_1 (fun H locs hw => ?_)
  have hw : zHw x A s.heap (zHW x b t S l0 T l1 K l2 ik fd tb tq bo so nn) H locs := hw
  refine lv_if_eq (tgt := 16) hx hb dX5_streetOf_4 (by decide) (fun c4 => ?_) (fun c4 => ?_)
  · have c4 := zb_0.mp c4
    refine lv_aload_n hx hb dX5_streetOf_16 rfl (lv_at hl 0 rfl) ?_
    refine lv_ldc (v := (-1000000001)) hx hb hown (hts _ ckX5_51) dX5_streetOf_17 ?_
    refine zcVwi (r := (-1000000001)) hx hb hml hown hts hl.1 hK hE hA lkX5_52 (c_X5_found x b t S l0 T l1 K l2 ik fd tb tq bo so nn (-1000000001) 0 (by decide) (by decide)) ⟨Nat.le_of_ble_eq_true rfl, Nat.le_of_ble_eq_true rfl⟩ ⟨Nat.zero_le _, Nat.zero_le _⟩ hw 0 3 rfl rfl rfl rfl (Nat.le_of_ble_eq_true rfl) dX5_streetOf_19 (fun H locs hw => ?_)
    have hw : zHw x A s.heap (zHW x b t S l0 T l1 K l2 ik (upd fd 0 (fd 0 + 1)) tb tq bo so nn) H locs := hw
    exact zFG.iret hx hb hr hlocks hQ hw rfl dX5_streetOf_22 (zPH.mk (r := zm_streetOf S fd r w) (v := (-1000000001)) (S' := S) (fd' := zFd fd 0) (by unfold zm_streetOf; first | (rw [if_neg (fun h => c13 h.2)]; rfl) | (rw [if_neg (fun h => c4 h.1)]; rfl)))
  · have c4 := zb_n0.mp c4
    refine lv_iload_n hx hb dX5_streetOf_7 rfl (lv_at hl 2 rfl) ?_
    refine lv_iconst (v := 0) hx hb dX5_streetOf_8 (by decide) ?_
    refine lv_iconst (v := 3) hx hb dX5_streetOf_9 (by decide) ?_
    refine zcSwi (r := zb (0 ≤ w ∧ w ≤ 3)) hx hb hml hown hts hl.1 hK hE hA lkX5_44 (c_X5_within x (zHW x b t S l0 T l1 K l2 ik fd tb tq bo so nn) w 0 3) ⟨Nat.le_of_ble_eq_true rfl, Nat.le_of_ble_eq_true rfl⟩ ⟨Nat.zero_le _, Nat.zero_le _⟩ hw rfl rfl (Nat.le_of_ble_eq_true rfl) dX5_streetOf_10 (fun H locs hw => ?_)
    have hw : zHw x A s.heap (zHW x b t S l0 T l1 K l2 ik fd tb tq bo so nn) H locs := hw
    refine lv_if_ne (tgt := 23) hx hb dX5_streetOf_13 (by decide) (fun c13 => ?_) (fun c13 => ?_)
    · have c13 := zb_n0.mp c13
      obtain ⟨i, hi, rfl⟩ := z6_nat c4
      refine lv_iload_n hx hb dX5_streetOf_23 rfl (lv_at hl 2 rfl) ?_
      rcases Decidable.em (w = 0) with k0 | k0
      · refine W.eq (g2 := F0 m 24 ls (.int 0 :: [])) (by rw [k0]) ?_
        refine lv_tableIn (off := 28) (tgt := 52) hx hb dX5_streetOf_24 (by decide) (by decide) (by decide) (by decide) ?_
        refine lv_aload_n hx hb dX5_streetOf_52 rfl (lv_at hl 0 rfl) ?_
        refine gfX5_10 hx hb hown hts hK hw 0 rfl rfl dX5_streetOf_53 ?_
        refine gfX5_67 hx hb hown hts hK hw 3 rfl rfl dX5_streetOf_56 ?_
        refine lv_iload_n hx hb dX5_streetOf_59 rfl (lv_at hl 1 rfl) ?_
        refine zial hx hb hK hw 4 0 i rfl rfl rfl (by omega) (by decide) dX5_streetOf_60 ?_
        exact zFG.iret hx hb hr hlocks hQ hw rfl dX5_streetOf_61 (zPH.mk (r := zm_streetOf S fd (nI i) w) (v := (S 1) i) (S' := S) (fd' := fd) (by subst k0; unfold zm_streetOf; rw [if_pos ⟨c4, c13⟩, if_pos (by decide), zc_nI (show i < 2147483648 by omega)]; rfl))
      rcases Decidable.em (w = 1) with k1 | k1
      · refine W.eq (g2 := F0 m 24 ls (.int 1 :: [])) (by rw [k1]) ?_
        refine lv_tableIn (off := 38) (tgt := 62) hx hb dX5_streetOf_24 (by decide) (by decide) (by decide) (by decide) ?_
        refine lv_aload_n hx hb dX5_streetOf_62 rfl (lv_at hl 0 rfl) ?_
        refine gfX5_10 hx hb hown hts hK hw 0 rfl rfl dX5_streetOf_63 ?_
        refine gfX5_70 hx hb hown hts hK hw 3 rfl rfl dX5_streetOf_66 ?_
        refine lv_iload_n hx hb dX5_streetOf_69 rfl (lv_at hl 1 rfl) ?_
        refine zial hx hb hK hw 5 0 i rfl rfl rfl (by omega) (by decide) dX5_streetOf_70 ?_
        exact zFG.iret hx hb hr hlocks hQ hw rfl dX5_streetOf_71 (zPH.mk (r := zm_streetOf S fd (nI i) w) (v := (S 2) i) (S' := S) (fd' := fd) (by subst k1; unfold zm_streetOf; rw [if_pos ⟨c4, c13⟩, if_pos (by decide), zc_nI (show i < 2147483648 by omega)]; rfl))
      rcases Decidable.em (w = 2) with k2 | k2
      · refine W.eq (g2 := F0 m 24 ls (.int 2 :: [])) (by rw [k2]) ?_
        refine lv_tableIn (off := 48) (tgt := 72) hx hb dX5_streetOf_24 (by decide) (by decide) (by decide) (by decide) ?_
        refine lv_aload_n hx hb dX5_streetOf_72 rfl (lv_at hl 0 rfl) ?_
        refine gfX5_10 hx hb hown hts hK hw 0 rfl rfl dX5_streetOf_73 ?_
        refine lv_iload_n hx hb dX5_streetOf_76 rfl (lv_at hl 1 rfl) ?_
        refine zcVmi (r := zBi (fun h => decide (S 4 h = (nI i))) (zN S)) (C1 := (zOW x b t ik fd)) (C2 := (zTW x (t 1) T l1 ++ (zTW x (t 2) K l2 ++ (zPW x b tb tq ++ (zSH x (b 5) (b 9) (bo 0) (so 0) (nn 0) ++ (zSH x (b 6) (b 10) (bo 1) (so 1) (nn 1) ++ (zSH x (b 7) (b 11) (bo 2) (so 2) (nn 2) ++ zSH x (b 8) (b 12) (bo 3) (so 3) (nn 3)))))))) hx hb hml hown hts hl.1 hK hE hA lkX5_77 (c_X3_holesIn x (t 0) S l0 (nI i) hI) ⟨Nat.le_of_ble_eq_true rfl, Nat.le_of_ble_eq_true rfl⟩ ⟨Nat.zero_le _, Nat.zero_le _⟩ hw 0 2 rfl rfl rfl rfl (Nat.le_of_ble_eq_true rfl) dX5_streetOf_77 (fun H locs hw => ?_)
        have hw : zHw x A s.heap (zHW x b t S l0 T l1 K l2 ik fd tb tq bo so nn) H locs := hw
        exact zFG.iret hx hb hr hlocks hQ hw rfl dX5_streetOf_80 (zPH.mk (r := zm_streetOf S fd (nI i) w) (v := zBi (fun h => decide (S 4 h = (nI i))) (zN S)) (S' := S) (fd' := fd) (by subst k2; unfold zm_streetOf; rw [if_pos ⟨c4, c13⟩, if_neg (by decide), if_pos rfl]))
      refine lv_tableOut (tgt := 81) hx hb dX5_streetOf_24 (zout3 k0 k1 k2) (by decide) ?_
      refine lv_aload_n hx hb dX5_streetOf_81 rfl (lv_at hl 0 rfl) ?_
      refine gfX5_10 hx hb hown hts hK hw 0 rfl rfl dX5_streetOf_82 ?_
      refine lv_iload_n hx hb dX5_streetOf_85 rfl (lv_at hl 1 rfl) ?_
      refine zcVmi (r := zBi (fun h => decide (S 4 h = (nI i))) (zN S)) (C1 := (zOW x b t ik fd)) (C2 := (zTW x (t 1) T l1 ++ (zTW x (t 2) K l2 ++ (zPW x b tb tq ++ (zSH x (b 5) (b 9) (bo 0) (so 0) (nn 0) ++ (zSH x (b 6) (b 10) (bo 1) (so 1) (nn 1) ++ (zSH x (b 7) (b 11) (bo 2) (so 2) (nn 2) ++ zSH x (b 8) (b 12) (bo 3) (so 3) (nn 3)))))))) hx hb hml hown hts hl.1 hK hE hA lkX5_77 (c_X3_holesIn x (t 0) S l0 (nI i) hI) ⟨Nat.le_of_ble_eq_true rfl, Nat.le_of_ble_eq_true rfl⟩ ⟨Nat.zero_le _, Nat.zero_le _⟩ hw 0 2 rfl rfl rfl rfl (Nat.le_of_ble_eq_true rfl) dX5_streetOf_86 (fun H locs hw => ?_)
      have hw : zHw x A s.heap (zHW x b t S l0 T l1 K l2 ik fd tb tq bo so nn) H locs := hw
      refine lv_aload_n hx hb dX5_streetOf_89 rfl (lv_at hl 0 rfl) ?_
      refine gfX5_10 hx hb hown hts hK hw 0 rfl rfl dX5_streetOf_90 ?_
      refine zcVmi (r := zBi (zopn S) (zN S)) (C1 := (zOW x b t ik fd)) (C2 := (zTW x (t 1) T l1 ++ (zTW x (t 2) K l2 ++ (zPW x b tb tq ++ (zSH x (b 5) (b 9) (bo 0) (so 0) (nn 0) ++ (zSH x (b 6) (b 10) (bo 1) (so 1) (nn 1) ++ (zSH x (b 7) (b 11) (bo 2) (so 2) (nn 2) ++ zSH x (b 8) (b 12) (bo 3) (so 3) (nn 3)))))))) hx hb hml hown hts hl.1 hK hE hA lkX5_80 (c_X3_openHoles x (t 0) S l0 hI) ⟨Nat.le_of_ble_eq_true rfl, Nat.le_of_ble_eq_true rfl⟩ ⟨Nat.zero_le _, Nat.zero_le _⟩ hw 0 2 rfl rfl rfl rfl (Nat.le_of_ble_eq_true rfl) dX5_streetOf_93 (fun H locs hw => ?_)
      have hw : zHw x A s.heap (zHW x b t S l0 T l1 K l2 ik fd tb tq bo so nn) H locs := hw
      refine lv_iand hx hb dX5_streetOf_96 ?_
      exact zFG.iret hx hb hr hlocks hQ hw rfl dX5_streetOf_97 (zPH.mk (r := zm_streetOf S fd (nI i) w) (v := (zBi (fun h => decide (S 4 h = (nI i))) (zN S)) &&& (zBi (zopn S) (zN S))) (S' := S) (fd' := fd) (by unfold zm_streetOf; rw [if_pos ⟨c4, c13⟩, if_neg (zgt1 c13 k0 k1), if_neg k2]))
    · have c13 := zb_0.mp c13
      refine lv_aload_n hx hb dX5_streetOf_16 rfl (lv_at hl 0 rfl) ?_
      refine lv_ldc (v := (-1000000001)) hx hb hown (hts _ ckX5_51) dX5_streetOf_17 ?_
      refine zcVwi (r := (-1000000001)) hx hb hml hown hts hl.1 hK hE hA lkX5_52 (c_X5_found x b t S l0 T l1 K l2 ik fd tb tq bo so nn (-1000000001) 0 (by decide) (by decide)) ⟨Nat.le_of_ble_eq_true rfl, Nat.le_of_ble_eq_true rfl⟩ ⟨Nat.zero_le _, Nat.zero_le _⟩ hw 0 3 rfl rfl rfl rfl (Nat.le_of_ble_eq_true rfl) dX5_streetOf_19 (fun H locs hw => ?_)
      have hw : zHw x A s.heap (zHW x b t S l0 T l1 K l2 ik (upd fd 0 (fd 0 + 1)) tb tq bo so nn) H locs := hw
      exact zFG.iret hx hb hr hlocks hQ hw rfl dX5_streetOf_22 (zPH.mk (r := zm_streetOf S fd r w) (v := (-1000000001)) (S' := S) (fd' := zFd fd 0) (by unfold zm_streetOf; first | (rw [if_neg (fun h => c13 h.2)]; rfl) | (rw [if_neg (fun h => c4 h.1)]; rfl)))

set_option maxHeartbeats 4000000 in
set_option maxRecDepth 100000 in
theorem c_X5_hole (x : zX) (b : Nat → Nat) (t : Nat → Nat → Nat) (S : zT) (l0 : Int32) (T : zT) (l1 : Int32) (K : zT) (l2 ik : Int32) (fd tb tq bo so : Nat → Int32) (nn : Nat → Nat → Int64) (k r : Int32) (hI : zInv S) : zFG x mX5_hole 1 [.ref (b 0), .int k, .int r] (zHW x b t S l0 T l1 K l2 ik fd tb tq bo so nn) (zPH x b t K l2 ik tb tq bo so nn (zm_hole S fd k r)) := by
  refine zFG.start RX5 cX5_hole 3 (some .int) rfl rfl (by decide +kernel) (Nat.le_of_ble_eq_true rfl) ?_
  intro p e s m ar below meth c ls A Q hx hb hr hml hown hts hlocks hK hE hA hQ hl hw
  have hl : lv_has ls 3 [(0, .ref (b 0)), (1, .int k), (2, .int r)] := hl
  have hw : zHw x A s.heap (zHW x b t S l0 T l1 K l2 ik fd tb tq bo so nn) s.heap [] := hw
  refine lv_iload_n hx hb dX5_hole_0 rfl (lv_at hl 1 rfl) ?_
  refine zcSwi (r := zb (0 ≤ k ∧ k < 6)) hx hb hml hown hts hl.1 hK hE hA lkX5_84 (c_X5_isKind x (zHW x b t S l0 T l1 K l2 ik fd tb tq bo so nn) k) ⟨Nat.le_of_ble_eq_true rfl, Nat.le_of_ble_eq_true rfl⟩ ⟨Nat.zero_le _, Nat.zero_le _⟩ hw rfl rfl (Nat.le_of_ble_eq_true rfl) dX5_hole_1 (fun H locs hw => ?_)
  have hw : zHw x A s.heap (zHW x b t S l0 T l1 K l2 ik fd tb tq bo so nn) H locs := hw
  refine lv_if_eq (tgt := 14) hx hb dX5_hole_4 (by decide) (fun c4 => ?_) (fun c4 => ?_)
  · have c4 := zb_0.mp c4
    refine lv_aload_n hx hb dX5_hole_14 rfl (lv_at hl 0 rfl) ?_
    refine lv_ldc (v := (-1000000001)) hx hb hown (hts _ ckX5_51) dX5_hole_15 ?_
    refine zcVwi (r := (-1000000001)) hx hb hml hown hts hl.1 hK hE hA lkX5_52 (c_X5_found x b t S l0 T l1 K l2 ik fd tb tq bo so nn (-1000000001) 0 (by decide) (by decide)) ⟨Nat.le_of_ble_eq_true rfl, Nat.le_of_ble_eq_true rfl⟩ ⟨Nat.zero_le _, Nat.zero_le _⟩ hw 0 3 rfl rfl rfl rfl (Nat.le_of_ble_eq_true rfl) dX5_hole_17 (fun H locs hw => ?_)
    have hw : zHw x A s.heap (zHW x b t S l0 T l1 K l2 ik (upd fd 0 (fd 0 + 1)) tb tq bo so nn) H locs := hw
    exact zFG.iret hx hb hr hlocks hQ hw rfl dX5_hole_20 (zPH.mk (r := zm_hole S fd k r) (v := (-1000000001)) (S' := S) (fd' := zFd fd 0) (by unfold zm_hole; first | (rw [if_neg (fun h => c11 h.2)]; rfl) | (rw [if_neg (fun h => c4 h.1)]; rfl)))
  · have c4 := zb_n0.mp c4
    refine lv_iload_n hx hb dX5_hole_7 rfl (lv_at hl 2 rfl) ?_
    refine zcSwi (r := zb (0 ≤ r ∧ r < 6)) hx hb hml hown hts hl.1 hK hE hA lkX5_60 (c_X5_isStreet x (zHW x b t S l0 T l1 K l2 ik fd tb tq bo so nn) r) ⟨Nat.le_of_ble_eq_true rfl, Nat.le_of_ble_eq_true rfl⟩ ⟨Nat.zero_le _, Nat.zero_le _⟩ hw rfl rfl (Nat.le_of_ble_eq_true rfl) dX5_hole_8 (fun H locs hw => ?_)
    have hw : zHw x A s.heap (zHW x b t S l0 T l1 K l2 ik fd tb tq bo so nn) H locs := hw
    refine lv_if_ne (tgt := 21) hx hb dX5_hole_11 (by decide) (fun c11 => ?_) (fun c11 => ?_)
    · have c11 := zb_n0.mp c11
      refine lv_aload_n hx hb dX5_hole_21 rfl (lv_at hl 0 rfl) ?_
      refine gfX5_10 hx hb hown hts hK hw 0 rfl rfl dX5_hole_22 ?_
      refine zcVmi (r := zb (8 ≤ S 0 0)) (C1 := (zOW x b t ik fd)) (C2 := (zTW x (t 1) T l1 ++ (zTW x (t 2) K l2 ++ (zPW x b tb tq ++ (zSH x (b 5) (b 9) (bo 0) (so 0) (nn 0) ++ (zSH x (b 6) (b 10) (bo 1) (so 1) (nn 1) ++ (zSH x (b 7) (b 11) (bo 2) (so 2) (nn 2) ++ zSH x (b 8) (b 12) (bo 3) (so 3) (nn 3)))))))) hx hb hml hown hts hl.1 hK hE hA lkX5_87 (c_X3_isFull x (t 0) S l0 ) ⟨Nat.le_of_ble_eq_true rfl, Nat.le_of_ble_eq_true rfl⟩ ⟨Nat.zero_le _, Nat.zero_le _⟩ hw 0 2 rfl rfl rfl rfl (Nat.le_of_ble_eq_true rfl) dX5_hole_25 (fun H locs hw => ?_)
      have hw : zHw x A s.heap (zHW x b t S l0 T l1 K l2 ik fd tb tq bo so nn) H locs := hw
      refine lv_if_eq (tgt := 38) hx hb dX5_hole_28 (by decide) (fun c28 => ?_) (fun c28 => ?_)
      · have c28 := zb_0.mp c28
        have hz0 := zN_0 hI
        have h8 := zN_le hI
        have hz8 : zN S < 8 := by
          rcases Nat.lt_or_ge (zN S) 8 with q | q
          · exact q
          · exact absurd (by rw [hz0]; exact nI_le (a := 8) q (by omega)) c28
        have h8n : ¬ S 0 0 = 8 := fun e => c28 (by rw [e]; decide)
        refine lv_aload_n hx hb dX5_hole_38 rfl (lv_at hl 0 rfl) ?_
        refine gfX5_10 hx hb hown hts hK hw 0 rfl rfl dX5_hole_39 ?_
        refine lv_iload_n hx hb dX5_hole_42 rfl (lv_at hl 1 rfl) ?_
        refine lv_iload_n hx hb dX5_hole_43 rfl (lv_at hl 2 rfl) ?_
        refine zcVmi (r := nI (zN S)) (C1 := (zOW x b t ik fd)) (C2 := (zTW x (t 1) T l1 ++ (zTW x (t 2) K l2 ++ (zPW x b tb tq ++ (zSH x (b 5) (b 9) (bo 0) (so 0) (nn 0) ++ (zSH x (b 6) (b 10) (bo 1) (so 1) (nn 1) ++ (zSH x (b 7) (b 11) (bo 2) (so 2) (nn 2) ++ zSH x (b 8) (b 12) (bo 3) (so 3) (nn 3)))))))) hx hb hml hown hts hl.1 hK hE hA lkX5_92 (c_X3_addHole x (t 0) S l0 k r hz0 hz8) ⟨Nat.le_of_ble_eq_true rfl, Nat.le_of_ble_eq_true rfl⟩ ⟨Nat.zero_le _, Nat.zero_le _⟩ hw 0 2 rfl rfl rfl rfl (Nat.le_of_ble_eq_true rfl) dX5_hole_44 (fun H locs hw => ?_)
        have hw : zHw x A s.heap (zHW x b t (zAd S k r) l0 T l1 K l2 ik fd tb tq bo so nn) H locs := hw
        exact zFG.iret hx hb hr hlocks hQ hw rfl dX5_hole_47 (zPH.mk (r := zm_hole S fd k r) (v := nI (zN S)) (S' := zAd S k r) (fd' := fd) (by unfold zm_hole; rw [if_pos ⟨c4, c11⟩, if_neg h8n]))
      · have c28 := zb_n0.mp c28
        have h8e : S 0 0 = 8 := by
          have hz0 := zN_0 hI
          have h8 := zN_le hI
          rw [hz0] at c28 ⊢
          have h9 : 8 ≤ zN S := (nI_leI (a := 8) (by decide) (by omega)).mp c28
          rw [show zN S = 8 from by omega]; rfl
        refine lv_aload_n hx hb dX5_hole_31 rfl (lv_at hl 0 rfl) ?_
        refine lv_ldc (v := (-1000000002)) hx hb hown (hts _ ckX5_91) dX5_hole_32 ?_
        refine zcVwi (r := (-1000000002)) hx hb hml hown hts hl.1 hK hE hA lkX5_52 (c_X5_found x b t S l0 T l1 K l2 ik fd tb tq bo so nn (-1000000002) 1 (by decide) (by decide)) ⟨Nat.le_of_ble_eq_true rfl, Nat.le_of_ble_eq_true rfl⟩ ⟨Nat.zero_le _, Nat.zero_le _⟩ hw 0 3 rfl rfl rfl rfl (Nat.le_of_ble_eq_true rfl) dX5_hole_34 (fun H locs hw => ?_)
        have hw : zHw x A s.heap (zHW x b t S l0 T l1 K l2 ik (upd fd 1 (fd 1 + 1)) tb tq bo so nn) H locs := hw
        exact zFG.iret hx hb hr hlocks hQ hw rfl dX5_hole_37 (zPH.mk (r := zm_hole S fd k r) (v := (-1000000002)) (S' := S) (fd' := zFd fd 1) (by unfold zm_hole; rw [if_pos ⟨c4, c11⟩, if_pos h8e]))
    · have c11 := zb_0.mp c11
      refine lv_aload_n hx hb dX5_hole_14 rfl (lv_at hl 0 rfl) ?_
      refine lv_ldc (v := (-1000000001)) hx hb hown (hts _ ckX5_51) dX5_hole_15 ?_
      refine zcVwi (r := (-1000000001)) hx hb hml hown hts hl.1 hK hE hA lkX5_52 (c_X5_found x b t S l0 T l1 K l2 ik fd tb tq bo so nn (-1000000001) 0 (by decide) (by decide)) ⟨Nat.le_of_ble_eq_true rfl, Nat.le_of_ble_eq_true rfl⟩ ⟨Nat.zero_le _, Nat.zero_le _⟩ hw 0 3 rfl rfl rfl rfl (Nat.le_of_ble_eq_true rfl) dX5_hole_17 (fun H locs hw => ?_)
      have hw : zHw x A s.heap (zHW x b t S l0 T l1 K l2 ik (upd fd 0 (fd 0 + 1)) tb tq bo so nn) H locs := hw
      exact zFG.iret hx hb hr hlocks hQ hw rfl dX5_hole_20 (zPH.mk (r := zm_hole S fd k r) (v := (-1000000001)) (S' := S) (fd' := zFd fd 0) (by unfold zm_hole; first | (rw [if_neg (fun h => c11 h.2)]; rfl) | (rw [if_neg (fun h => c4 h.1)]; rfl)))

set_option maxHeartbeats 4000000 in
set_option maxRecDepth 100000 in
theorem c_X5_turn (x : zX) (b : Nat → Nat) (t : Nat → Nat → Nat) (S : zT) (l0 : Int32) (T : zT) (l1 : Int32) (K : zT) (l2 ik : Int32) (fd tb tq bo so : Nat → Int32) (nn : Nat → Nat → Int64) (h k : Int32) (hI : zInv S) : zFG x mX5_turn 1 [.ref (b 0), .int h, .int k] (zHW x b t S l0 T l1 K l2 ik fd tb tq bo so nn) (zPH x b t K l2 ik tb tq bo so nn (zm_turn S fd h k)) := by
  refine zFG.start RX5 cX5_turn 3 (some .int) rfl rfl (by decide +kernel) (Nat.le_of_ble_eq_true rfl) ?_
  intro p e s m ar below meth c ls A Q hx hb hr hml hown hts hlocks hK hE hA hQ hl hw
  have hl : lv_has ls 3 [(0, .ref (b 0)), (1, .int h), (2, .int k)] := hl
  have hw : zHw x A s.heap (zHW x b t S l0 T l1 K l2 ik fd tb tq bo so nn) s.heap [] := hw
  refine lv_aload_n hx hb dX5_turn_0 rfl (lv_at hl 0 rfl) ?_
  refine gfX5_10 hx hb hown hts hK hw 0 rfl rfl dX5_turn_1 ?_
  refine lv_iload_n hx hb dX5_turn_4 rfl (lv_at hl 1 rfl) ?_
  refine zcVmi (r := zb (0 ≤ h ∧ h < S 0 0)) (C1 := (zOW x b t ik fd)) (C2 := (zTW x (t 1) T l1 ++ (zTW x (t 2) K l2 ++ (zPW x b tb tq ++ (zSH x (b 5) (b 9) (bo 0) (so 0) (nn 0) ++ (zSH x (b 6) (b 10) (bo 1) (so 1) (nn 1) ++ (zSH x (b 7) (b 11) (bo 2) (so 2) (nn 2) ++ zSH x (b 8) (b 12) (bo 3) (so 3) (nn 3)))))))) hx hb hml hown hts hl.1 hK hE hA lkX5_95 (c_X3_has x (t 0) S l0 h) ⟨Nat.le_of_ble_eq_true rfl, Nat.le_of_ble_eq_true rfl⟩ ⟨Nat.zero_le _, Nat.zero_le _⟩ hw 0 2 rfl rfl rfl rfl (Nat.le_of_ble_eq_true rfl) dX5_turn_5 (fun H locs hw => ?_)
  have hw : zHw x A s.heap (zHW x b t S l0 T l1 K l2 ik fd tb tq bo so nn) H locs := hw
  refine lv_if_eq (tgt := 18) hx hb dX5_turn_8 (by decide) (fun c8 => ?_) (fun c8 => ?_)
  · have c8 := zb_0.mp c8
    refine lv_aload_n hx hb dX5_turn_18 rfl (lv_at hl 0 rfl) ?_
    refine lv_ldc (v := (-1000000001)) hx hb hown (hts _ ckX5_51) dX5_turn_19 ?_
    refine zcVwi (r := (-1000000001)) hx hb hml hown hts hl.1 hK hE hA lkX5_52 (c_X5_found x b t S l0 T l1 K l2 ik fd tb tq bo so nn (-1000000001) 0 (by decide) (by decide)) ⟨Nat.le_of_ble_eq_true rfl, Nat.le_of_ble_eq_true rfl⟩ ⟨Nat.zero_le _, Nat.zero_le _⟩ hw 0 3 rfl rfl rfl rfl (Nat.le_of_ble_eq_true rfl) dX5_turn_21 (fun H locs hw => ?_)
    have hw : zHw x A s.heap (zHW x b t S l0 T l1 K l2 ik (upd fd 0 (fd 0 + 1)) tb tq bo so nn) H locs := hw
    exact zFG.iret hx hb hr hlocks hQ hw rfl dX5_turn_24 (zPH.mk (r := zm_turn S fd h k) (v := (-1000000001)) (S' := S) (fd' := zFd fd 0) (by unfold zm_turn; first | (rw [if_neg (fun h => c15 h.2)]; rfl) | (rw [if_neg (fun h => c8 h.1)]; rfl)))
  · have c8 := zb_n0.mp c8
    refine lv_iload_n hx hb dX5_turn_11 rfl (lv_at hl 2 rfl) ?_
    refine zcSwi (r := zb (0 ≤ k ∧ k < 6)) hx hb hml hown hts hl.1 hK hE hA lkX5_84 (c_X5_isKind x (zHW x b t S l0 T l1 K l2 ik fd tb tq bo so nn) k) ⟨Nat.le_of_ble_eq_true rfl, Nat.le_of_ble_eq_true rfl⟩ ⟨Nat.zero_le _, Nat.zero_le _⟩ hw rfl rfl (Nat.le_of_ble_eq_true rfl) dX5_turn_12 (fun H locs hw => ?_)
    have hw : zHw x A s.heap (zHW x b t S l0 T l1 K l2 ik fd tb tq bo so nn) H locs := hw
    refine lv_if_ne (tgt := 25) hx hb dX5_turn_15 (by decide) (fun c15 => ?_) (fun c15 => ?_)
    · have c15 := zb_n0.mp c15
      obtain ⟨i, hi8, hiN, rfl⟩ := zH_nat hI c8
      refine lv_aload_n hx hb dX5_turn_25 rfl (lv_at hl 0 rfl) ?_
      refine gfX5_10 hx hb hown hts hK hw 0 rfl rfl dX5_turn_26 ?_
      refine gfX5_104 hx hb hown hts hK hw 3 rfl rfl dX5_turn_29 ?_
      refine lv_iload_n hx hb dX5_turn_32 rfl (lv_at hl 1 rfl) ?_
      refine lv_iload_n hx hb dX5_turn_33 rfl (lv_at hl 2 rfl) ?_
      refine zcSmi (r := S 3 i) (C1 := (zOW x b t ik fd)) (C2 := (zTW x (t 1) T l1 ++ (zTW x (t 2) K l2 ++ (zPW x b tb tq ++ (zSH x (b 5) (b 9) (bo 0) (so 0) (nn 0) ++ (zSH x (b 6) (b 10) (bo 1) (so 1) (nn 1) ++ (zSH x (b 7) (b 11) (bo 2) (so 2) (nn 2) ++ zSH x (b 8) (b 12) (bo 3) (so 3) (nn 3)))))))) hx hb hml hown hts hl.1 hK hE hA lkX5_73 (c_X5_put_3 x (t 0) S l0 i k (by omega)) ⟨Nat.le_of_ble_eq_true rfl, Nat.le_of_ble_eq_true rfl⟩ ⟨Nat.zero_le _, Nat.zero_le _⟩ hw rfl rfl (Nat.le_of_ble_eq_true rfl) dX5_turn_34 (fun H locs hw => ?_)
      have hw : zHw x A s.heap (zHW x b t (zU S 3 i k) l0 T l1 K l2 ik fd tb tq bo so nn) H locs := hw
      exact zFG.iret hx hb hr hlocks hQ hw rfl dX5_turn_37 (zPH.mk (r := zm_turn S fd (nI i) k) (v := S 3 i) (S' := zU S 3 i k) (fd' := fd) (by unfold zm_turn; rw [if_pos ⟨c8, c15⟩, zc_nI (show i < 2147483648 by omega)]))
    · have c15 := zb_0.mp c15
      refine lv_aload_n hx hb dX5_turn_18 rfl (lv_at hl 0 rfl) ?_
      refine lv_ldc (v := (-1000000001)) hx hb hown (hts _ ckX5_51) dX5_turn_19 ?_
      refine zcVwi (r := (-1000000001)) hx hb hml hown hts hl.1 hK hE hA lkX5_52 (c_X5_found x b t S l0 T l1 K l2 ik fd tb tq bo so nn (-1000000001) 0 (by decide) (by decide)) ⟨Nat.le_of_ble_eq_true rfl, Nat.le_of_ble_eq_true rfl⟩ ⟨Nat.zero_le _, Nat.zero_le _⟩ hw 0 3 rfl rfl rfl rfl (Nat.le_of_ble_eq_true rfl) dX5_turn_21 (fun H locs hw => ?_)
      have hw : zHw x A s.heap (zHW x b t S l0 T l1 K l2 ik (upd fd 0 (fd 0 + 1)) tb tq bo so nn) H locs := hw
      exact zFG.iret hx hb hr hlocks hQ hw rfl dX5_turn_24 (zPH.mk (r := zm_turn S fd h k) (v := (-1000000001)) (S' := S) (fd' := zFd fd 0) (by unfold zm_turn; first | (rw [if_neg (fun h => c15 h.2)]; rfl) | (rw [if_neg (fun h => c8 h.1)]; rfl)))

set_option maxHeartbeats 4000000 in
set_option maxRecDepth 100000 in
theorem c_X5_as (x : zX) (b : Nat → Nat) (t : Nat → Nat → Nat) (S : zT) (l0 : Int32) (T : zT) (l1 : Int32) (K : zT) (l2 ik : Int32) (fd tb tq bo so : Nat → Int32) (nn : Nat → Nat → Int64) (h k : Int32) (hI : zInv S) : zFG x mX5_as 1 [.ref (b 0), .int h, .int k] (zHW x b t S l0 T l1 K l2 ik fd tb tq bo so nn) (zPH x b t K l2 ik tb tq bo so nn (zm_as S fd h k)) := by
  refine zFG.start RX5 cX5_as 3 (some .int) rfl rfl (by decide +kernel) (Nat.le_of_ble_eq_true rfl) ?_
  intro p e s m ar below meth c ls A Q hx hb hr hml hown hts hlocks hK hE hA hQ hl hw
  have hl : lv_has ls 3 [(0, .ref (b 0)), (1, .int h), (2, .int k)] := hl
  have hw : zHw x A s.heap (zHW x b t S l0 T l1 K l2 ik fd tb tq bo so nn) s.heap [] := hw
  refine lv_aload_n hx hb dX5_as_0 rfl (lv_at hl 0 rfl) ?_
  refine gfX5_10 hx hb hown hts hK hw 0 rfl rfl dX5_as_1 ?_
  refine lv_iload_n hx hb dX5_as_4 rfl (lv_at hl 1 rfl) ?_
  refine zcVmi (r := zb (0 ≤ h ∧ h < S 0 0)) (C1 := (zOW x b t ik fd)) (C2 := (zTW x (t 1) T l1 ++ (zTW x (t 2) K l2 ++ (zPW x b tb tq ++ (zSH x (b 5) (b 9) (bo 0) (so 0) (nn 0) ++ (zSH x (b 6) (b 10) (bo 1) (so 1) (nn 1) ++ (zSH x (b 7) (b 11) (bo 2) (so 2) (nn 2) ++ zSH x (b 8) (b 12) (bo 3) (so 3) (nn 3)))))))) hx hb hml hown hts hl.1 hK hE hA lkX5_95 (c_X3_has x (t 0) S l0 h) ⟨Nat.le_of_ble_eq_true rfl, Nat.le_of_ble_eq_true rfl⟩ ⟨Nat.zero_le _, Nat.zero_le _⟩ hw 0 2 rfl rfl rfl rfl (Nat.le_of_ble_eq_true rfl) dX5_as_5 (fun H locs hw => ?_)
  have hw : zHw x A s.heap (zHW x b t S l0 T l1 K l2 ik fd tb tq bo so nn) H locs := hw
  refine lv_if_eq (tgt := 18) hx hb dX5_as_8 (by decide) (fun c8 => ?_) (fun c8 => ?_)
  · have c8 := zb_0.mp c8
    refine lv_aload_n hx hb dX5_as_18 rfl (lv_at hl 0 rfl) ?_
    refine lv_ldc (v := (-1000000001)) hx hb hown (hts _ ckX5_51) dX5_as_19 ?_
    refine zcVwi (r := (-1000000001)) hx hb hml hown hts hl.1 hK hE hA lkX5_52 (c_X5_found x b t S l0 T l1 K l2 ik fd tb tq bo so nn (-1000000001) 0 (by decide) (by decide)) ⟨Nat.le_of_ble_eq_true rfl, Nat.le_of_ble_eq_true rfl⟩ ⟨Nat.zero_le _, Nat.zero_le _⟩ hw 0 3 rfl rfl rfl rfl (Nat.le_of_ble_eq_true rfl) dX5_as_21 (fun H locs hw => ?_)
    have hw : zHw x A s.heap (zHW x b t S l0 T l1 K l2 ik (upd fd 0 (fd 0 + 1)) tb tq bo so nn) H locs := hw
    exact zFG.iret hx hb hr hlocks hQ hw rfl dX5_as_24 (zPH.mk (r := zm_as S fd h k) (v := (-1000000001)) (S' := S) (fd' := zFd fd 0) (by unfold zm_as; first | (rw [if_neg (fun h => c15 h.2)]; rfl) | (rw [if_neg (fun h => c8 h.1)]; rfl)))
  · have c8 := zb_n0.mp c8
    refine lv_iload_n hx hb dX5_as_11 rfl (lv_at hl 2 rfl) ?_
    refine zcSwi (r := zb (0 ≤ k ∧ k < 6)) hx hb hml hown hts hl.1 hK hE hA lkX5_84 (c_X5_isKind x (zHW x b t S l0 T l1 K l2 ik fd tb tq bo so nn) k) ⟨Nat.le_of_ble_eq_true rfl, Nat.le_of_ble_eq_true rfl⟩ ⟨Nat.zero_le _, Nat.zero_le _⟩ hw rfl rfl (Nat.le_of_ble_eq_true rfl) dX5_as_12 (fun H locs hw => ?_)
    have hw : zHw x A s.heap (zHW x b t S l0 T l1 K l2 ik fd tb tq bo so nn) H locs := hw
    refine lv_if_ne (tgt := 25) hx hb dX5_as_15 (by decide) (fun c15 => ?_) (fun c15 => ?_)
    · have c15 := zb_n0.mp c15
      obtain ⟨i, hi8, hiN, rfl⟩ := zH_nat hI c8
      refine lv_aload_n hx hb dX5_as_25 rfl (lv_at hl 0 rfl) ?_
      refine gfX5_10 hx hb hown hts hK hw 0 rfl rfl dX5_as_26 ?_
      refine gfX5_104 hx hb hown hts hK hw 3 rfl rfl dX5_as_29 ?_
      refine lv_iload_n hx hb dX5_as_32 rfl (lv_at hl 1 rfl) ?_
      refine zial hx hb hK hw 6 0 i rfl rfl rfl (by omega) (by decide) dX5_as_33 ?_
      refine lv_iload_n hx hb dX5_as_34 rfl (lv_at hl 2 rfl) ?_
      refine zcSwi (r := zb (zUn ((S 3) i) k)) hx hb hml hown hts hl.1 hK hE hA lkX5_119 (c_X0_isUnder x (zHW x b t S l0 T l1 K l2 ik fd tb tq bo so nn) ((S 3) i) k) ⟨Nat.le_of_ble_eq_true rfl, Nat.le_of_ble_eq_true rfl⟩ ⟨Nat.zero_le _, Nat.zero_le _⟩ hw rfl rfl (Nat.le_of_ble_eq_true rfl) dX5_as_35 (fun H locs hw => ?_)
      have hw : zHw x A s.heap (zHW x b t S l0 T l1 K l2 ik fd tb tq bo so nn) H locs := hw
      refine lv_if_ne (tgt := 48) hx hb dX5_as_38 (by decide) (fun c38 => ?_) (fun c38 => ?_)
      · have c38 := zb_n0.mp c38
        refine lv_aload_n hx hb dX5_as_48 rfl (lv_at hl 0 rfl) ?_
        refine gfX5_10 hx hb hown hts hK hw 0 rfl rfl dX5_as_49 ?_
        refine gfX5_124 hx hb hown hts hK hw 3 rfl rfl dX5_as_52 ?_
        refine lv_iload_n hx hb dX5_as_55 rfl (lv_at hl 1 rfl) ?_
        refine zial hx hb hK hw 8 0 i rfl rfl rfl (by omega) (by decide) dX5_as_56 ?_
        exact zFG.iret hx hb hr hlocks hQ hw rfl dX5_as_57 (zPH.mk (r := zm_as S fd (nI i) k) (v := (S 5) i) (S' := S) (fd' := fd) (by unfold zm_as; rw [if_pos ⟨c8, c15⟩, if_pos (by rw [zc_nI (show i < 2147483648 by omega)]; exact c38), zc_nI (show i < 2147483648 by omega)]))
      · have c38 := zb_0.mp c38
        refine lv_aload_n hx hb dX5_as_41 rfl (lv_at hl 0 rfl) ?_
        refine lv_ldc (v := (-1000000003)) hx hb hown (hts _ ckX5_123) dX5_as_42 ?_
        refine zcVwi (r := (-1000000003)) hx hb hml hown hts hl.1 hK hE hA lkX5_52 (c_X5_found x b t S l0 T l1 K l2 ik fd tb tq bo so nn (-1000000003) 2 (by decide) (by decide)) ⟨Nat.le_of_ble_eq_true rfl, Nat.le_of_ble_eq_true rfl⟩ ⟨Nat.zero_le _, Nat.zero_le _⟩ hw 0 3 rfl rfl rfl rfl (Nat.le_of_ble_eq_true rfl) dX5_as_44 (fun H locs hw => ?_)
        have hw : zHw x A s.heap (zHW x b t S l0 T l1 K l2 ik (upd fd 2 (fd 2 + 1)) tb tq bo so nn) H locs := hw
        exact zFG.iret hx hb hr hlocks hQ hw rfl dX5_as_47 (zPH.mk (r := zm_as S fd (nI i) k) (v := (-1000000003)) (S' := S) (fd' := zFd fd 2) (by unfold zm_as; rw [if_pos ⟨c8, c15⟩, if_neg (by rw [zc_nI (show i < 2147483648 by omega)]; exact c38)]))
    · have c15 := zb_0.mp c15
      refine lv_aload_n hx hb dX5_as_18 rfl (lv_at hl 0 rfl) ?_
      refine lv_ldc (v := (-1000000001)) hx hb hown (hts _ ckX5_51) dX5_as_19 ?_
      refine zcVwi (r := (-1000000001)) hx hb hml hown hts hl.1 hK hE hA lkX5_52 (c_X5_found x b t S l0 T l1 K l2 ik fd tb tq bo so nn (-1000000001) 0 (by decide) (by decide)) ⟨Nat.le_of_ble_eq_true rfl, Nat.le_of_ble_eq_true rfl⟩ ⟨Nat.zero_le _, Nat.zero_le _⟩ hw 0 3 rfl rfl rfl rfl (Nat.le_of_ble_eq_true rfl) dX5_as_21 (fun H locs hw => ?_)
      have hw : zHw x A s.heap (zHW x b t S l0 T l1 K l2 ik (upd fd 0 (fd 0 + 1)) tb tq bo so nn) H locs := hw
      exact zFG.iret hx hb hr hlocks hQ hw rfl dX5_as_24 (zPH.mk (r := zm_as S fd h k) (v := (-1000000001)) (S' := S) (fd' := zFd fd 0) (by unfold zm_as; first | (rw [if_neg (fun h => c15 h.2)]; rfl) | (rw [if_neg (fun h => c8 h.1)]; rfl)))

set_option maxHeartbeats 4000000 in
set_option maxRecDepth 100000 in
theorem c_X5_of (x : zX) (b : Nat → Nat) (t : Nat → Nat → Nat) (S : zT) (l0 : Int32) (T : zT) (l1 : Int32) (K : zT) (l2 ik : Int32) (fd tb tq bo so : Nat → Int32) (nn : Nat → Nat → Int64) (h w : Int32) (hI : zInv S) : zFG x mX5_of 3 [.ref (b 0), .int h, .int w] (zHW x b t S l0 T l1 K l2 ik fd tb tq bo so nn) (zPH x b t K l2 ik tb tq bo so nn (zm_of S fd h w)) := by
  refine zFG.start RX5 cX5_of 3 (some .int) rfl rfl (by decide +kernel) (Nat.le_of_ble_eq_true rfl) ?_
  intro p e s m ar below meth c ls A Q hx hb hr hml hown hts hlocks hK hE hA hQ hl hw
  have hl : lv_has ls 3 [(0, .ref (b 0)), (1, .int h), (2, .int w)] := hl
  have hw : zHw x A s.heap (zHW x b t S l0 T l1 K l2 ik fd tb tq bo so nn) s.heap [] := hw
  refine lv_aload_n hx hb dX5_of_0 rfl (lv_at hl 0 rfl) ?_
  refine gfX5_10 hx hb hown hts hK hw 0 rfl rfl dX5_of_1 ?_
  refine lv_iload_n hx hb dX5_of_4 rfl (lv_at hl 1 rfl) ?_
  refine zcVmi (r := zb (0 ≤ h ∧ h < S 0 0)) (C1 := (zOW x b t ik fd)) (C2 := (zTW x (t 1) T l1 ++ (zTW x (t 2) K l2 ++ (zPW x b tb tq ++ (zSH x (b 5) (b 9) (bo 0) (so 0) (nn 0) ++ (zSH x (b 6) (b 10) (bo 1) (so 1) (nn 1) ++ (zSH x (b 7) (b 11) (bo 2) (so 2) (nn 2) ++ zSH x (b 8) (b 12) (bo 3) (so 3) (nn 3)))))))) hx hb hml hown hts hl.1 hK hE hA lkX5_95 (c_X3_has x (t 0) S l0 h) ⟨Nat.le_of_ble_eq_true rfl, Nat.le_of_ble_eq_true rfl⟩ ⟨Nat.zero_le _, Nat.zero_le _⟩ hw 0 2 rfl rfl rfl rfl (Nat.le_of_ble_eq_true rfl) dX5_of_5 (fun H locs hw => ?_)
  have hw : zHw x A s.heap (zHW x b t S l0 T l1 K l2 ik fd tb tq bo so nn) H locs := hw
  refine lv_if_eq (tgt := 21) hx hb dX5_of_8 (by decide) (fun c8 => ?_) (fun c8 => ?_)
  · have c8 := zb_0.mp c8
    refine lv_aload_n hx hb dX5_of_21 rfl (lv_at hl 0 rfl) ?_
    refine lv_ldc (v := (-1000000001)) hx hb hown (hts _ ckX5_51) dX5_of_22 ?_
    refine zcVwi (r := (-1000000001)) hx hb hml hown hts hl.1 hK hE hA lkX5_52 (c_X5_found x b t S l0 T l1 K l2 ik fd tb tq bo so nn (-1000000001) 0 (by decide) (by decide)) ⟨Nat.le_of_ble_eq_true rfl, Nat.le_of_ble_eq_true rfl⟩ ⟨Nat.zero_le _, Nat.zero_le _⟩ hw 0 3 rfl rfl rfl rfl (Nat.le_of_ble_eq_true rfl) dX5_of_24 (fun H locs hw => ?_)
    have hw : zHw x A s.heap (zHW x b t S l0 T l1 K l2 ik (upd fd 0 (fd 0 + 1)) tb tq bo so nn) H locs := hw
    exact zFG.iret hx hb hr hlocks hQ hw rfl dX5_of_27 (zPH.mk (r := zm_of S fd h w) (v := (-1000000001)) (S' := S) (fd' := zFd fd 0) (by unfold zm_of; first | (rw [if_neg (fun h => c18 h.2)]; rfl) | (rw [if_neg (fun h => c8 h.1)]; rfl)))
  · have c8 := zb_n0.mp c8
    refine lv_iload_n hx hb dX5_of_11 rfl (lv_at hl 2 rfl) ?_
    refine lv_iconst (v := 0) hx hb dX5_of_12 (by decide) ?_
    refine lv_bipush (v := 9) hx hb dX5_of_13 (by decide) ?_
    refine zcSwi (r := zb (0 ≤ w ∧ w ≤ 9)) hx hb hml hown hts hl.1 hK hE hA lkX5_44 (c_X5_within x (zHW x b t S l0 T l1 K l2 ik fd tb tq bo so nn) w 0 9) ⟨Nat.le_of_ble_eq_true rfl, Nat.le_of_ble_eq_true rfl⟩ ⟨Nat.zero_le _, Nat.zero_le _⟩ hw rfl rfl (Nat.le_of_ble_eq_true rfl) dX5_of_15 (fun H locs hw => ?_)
    have hw : zHw x A s.heap (zHW x b t S l0 T l1 K l2 ik fd tb tq bo so nn) H locs := hw
    refine lv_if_ne (tgt := 28) hx hb dX5_of_18 (by decide) (fun c18 => ?_) (fun c18 => ?_)
    · have c18 := zb_n0.mp c18
      obtain ⟨i, hi8, hiN, rfl⟩ := zH_nat hI c8
      refine lv_iload_n hx hb dX5_of_28 rfl (lv_at hl 2 rfl) ?_
      rcases Decidable.em (w = 6) with k6 | k6
      · refine W.eq (g2 := F0 m 29 ls (.int 6 :: [])) (by rw [k6]) ?_
        refine lv_tableIn (off := 31) (tgt := 60) hx hb dX5_of_29 (by decide) (by decide) (by decide) (by decide) ?_
        refine lv_aload_n hx hb dX5_of_60 rfl (lv_at hl 0 rfl) ?_
        refine gfX5_10 hx hb hown hts hK hw 0 rfl rfl dX5_of_61 ?_
        refine lv_iload_n hx hb dX5_of_64 rfl (lv_at hl 1 rfl) ?_
        refine zcVmi (r := zGs S i) (C1 := (zOW x b t ik fd)) (C2 := (zTW x (t 1) T l1 ++ (zTW x (t 2) K l2 ++ (zPW x b tb tq ++ (zSH x (b 5) (b 9) (bo 0) (so 0) (nn 0) ++ (zSH x (b 6) (b 10) (bo 1) (so 1) (nn 1) ++ (zSH x (b 7) (b 11) (bo 2) (so 2) (nn 2) ++ zSH x (b 8) (b 12) (bo 3) (so 3) (nn 3)))))))) hx hb hml hown hts hl.1 hK hE hA lkX5_98 (c_X3_growth x (t 0) S l0 i hI (by omega)) ⟨Nat.le_of_ble_eq_true rfl, Nat.le_of_ble_eq_true rfl⟩ ⟨Nat.zero_le _, Nat.zero_le _⟩ hw 0 2 rfl rfl rfl rfl (Nat.le_of_ble_eq_true rfl) dX5_of_65 (fun H locs hw => ?_)
        have hw : zHw x A s.heap (zHW x b t S l0 T l1 K l2 ik fd tb tq bo so nn) H locs := hw
        exact zFG.iret hx hb hr hlocks hQ hw rfl dX5_of_68 (zPH.mk (r := zm_of S fd (nI i) w) (v := zGs S i) (S' := S) (fd' := fd) (by subst k6; unfold zm_of; rw [if_pos ⟨c8, c18⟩, if_pos rfl, zc_nI (show i < 2147483648 by omega)]))
      rcases Decidable.em (w = 7) with k7 | k7
      · refine W.eq (g2 := F0 m 29 ls (.int 7 :: [])) (by rw [k7]) ?_
        refine lv_tableIn (off := 40) (tgt := 69) hx hb dX5_of_29 (by decide) (by decide) (by decide) (by decide) ?_
        refine lv_aload_n hx hb dX5_of_69 rfl (lv_at hl 0 rfl) ?_
        refine gfX5_10 hx hb hown hts hK hw 0 rfl rfl dX5_of_70 ?_
        refine lv_iload_n hx hb dX5_of_73 rfl (lv_at hl 1 rfl) ?_
        refine lv_iconst (v := 0) hx hb dX5_of_74 (by decide) ?_
        refine zcVmi (r := zPs S i 0) (C1 := (zOW x b t ik fd)) (C2 := (zTW x (t 1) T l1 ++ (zTW x (t 2) K l2 ++ (zPW x b tb tq ++ (zSH x (b 5) (b 9) (bo 0) (so 0) (nn 0) ++ (zSH x (b 6) (b 10) (bo 1) (so 1) (nn 1) ++ (zSH x (b 7) (b 11) (bo 2) (so 2) (nn 2) ++ zSH x (b 8) (b 12) (bo 3) (so 3) (nn 3)))))))) hx hb hml hown hts hl.1 hK hE hA lkX5_101 (c_X3_price x (t 0) S l0 i 0 (by omega)) ⟨Nat.le_of_ble_eq_true rfl, Nat.le_of_ble_eq_true rfl⟩ ⟨Nat.zero_le _, Nat.zero_le _⟩ hw 0 2 rfl rfl rfl rfl (Nat.le_of_ble_eq_true rfl) dX5_of_75 (fun H locs hw => ?_)
        have hw : zHw x A s.heap (zHW x b t S l0 T l1 K l2 ik fd tb tq bo so nn) H locs := hw
        exact zFG.iret hx hb hr hlocks hQ hw rfl dX5_of_78 (zPH.mk (r := zm_of S fd (nI i) w) (v := zPs S i 0) (S' := S) (fd' := fd) (by subst k7; unfold zm_of; rw [if_pos ⟨c8, c18⟩, if_neg (by decide), if_pos rfl, zc_nI (show i < 2147483648 by omega)]; rfl))
      rcases Decidable.em (w = 8) with k8 | k8
      · refine W.eq (g2 := F0 m 29 ls (.int 8 :: [])) (by rw [k8]) ?_
        refine lv_tableIn (off := 50) (tgt := 79) hx hb dX5_of_29 (by decide) (by decide) (by decide) (by decide) ?_
        refine lv_aload_n hx hb dX5_of_79 rfl (lv_at hl 0 rfl) ?_
        refine gfX5_10 hx hb hown hts hK hw 0 rfl rfl dX5_of_80 ?_
        refine gfX5_104 hx hb hown hts hK hw 3 rfl rfl dX5_of_83 ?_
        refine lv_iload_n hx hb dX5_of_86 rfl (lv_at hl 1 rfl) ?_
        refine zial hx hb hK hw 6 0 i rfl rfl rfl (by omega) (by decide) dX5_of_87 ?_
        refine lv_iconst (v := 1) hx hb dX5_of_88 (by decide) ?_
        refine zcSwi (r := zHd ((S 3) i) 1) hx hb hml hown hts hl.1 hK hE hA lkX5_107 (c_X0_holds x (zHW x b t S l0 T l1 K l2 ik fd tb tq bo so nn) ((S 3) i) 1) ⟨Nat.le_of_ble_eq_true rfl, Nat.le_of_ble_eq_true rfl⟩ ⟨Nat.zero_le _, Nat.zero_le _⟩ hw rfl rfl (Nat.le_of_ble_eq_true rfl) dX5_of_89 (fun H locs hw => ?_)
        have hw : zHw x A s.heap (zHW x b t S l0 T l1 K l2 ik fd tb tq bo so nn) H locs := hw
        exact zFG.iret hx hb hr hlocks hQ hw rfl dX5_of_92 (zPH.mk (r := zm_of S fd (nI i) w) (v := zHd ((S 3) i) 1) (S' := S) (fd' := fd) (by subst k8; unfold zm_of; rw [if_pos ⟨c8, c18⟩, if_neg (by decide), if_neg (by decide), if_pos rfl, zc_nI (show i < 2147483648 by omega)]))
      rcases Decidable.em (w = 9) with k9 | k9
      · refine W.eq (g2 := F0 m 29 ls (.int 9 :: [])) (by rw [k9]) ?_
        refine lv_tableIn (off := 64) (tgt := 93) hx hb dX5_of_29 (by decide) (by decide) (by decide) (by decide) ?_
        refine lv_aload_n hx hb dX5_of_93 rfl (lv_at hl 0 rfl) ?_
        refine gfX5_10 hx hb hown hts hK hw 0 rfl rfl dX5_of_94 ?_
        refine gfX5_104 hx hb hown hts hK hw 3 rfl rfl dX5_of_97 ?_
        refine lv_iload_n hx hb dX5_of_100 rfl (lv_at hl 1 rfl) ?_
        refine zial hx hb hK hw 6 0 i rfl rfl rfl (by omega) (by decide) dX5_of_101 ?_
        refine lv_iconst (v := 2) hx hb dX5_of_102 (by decide) ?_
        refine zcSwi (r := zHd ((S 3) i) 2) hx hb hml hown hts hl.1 hK hE hA lkX5_107 (c_X0_holds x (zHW x b t S l0 T l1 K l2 ik fd tb tq bo so nn) ((S 3) i) 2) ⟨Nat.le_of_ble_eq_true rfl, Nat.le_of_ble_eq_true rfl⟩ ⟨Nat.zero_le _, Nat.zero_le _⟩ hw rfl rfl (Nat.le_of_ble_eq_true rfl) dX5_of_103 (fun H locs hw => ?_)
        have hw : zHw x A s.heap (zHW x b t S l0 T l1 K l2 ik fd tb tq bo so nn) H locs := hw
        exact zFG.iret hx hb hr hlocks hQ hw rfl dX5_of_106 (zPH.mk (r := zm_of S fd (nI i) w) (v := zHd ((S 3) i) 2) (S' := S) (fd' := fd) (by subst k9; unfold zm_of; rw [if_pos ⟨c8, c18⟩, if_neg (by decide), if_neg (by decide), if_neg (by decide), if_pos rfl, zc_nI (show i < 2147483648 by omega)]))
      refine lv_tableOut (tgt := 107) hx hb dX5_of_29 (zouth4 k6 k7 k8 k9) (by decide) ?_
      rcases zcase6 c18 k6 k7 k8 k9 with rfl | rfl | rfl | rfl | rfl | rfl
      · refine lv_aload_n hx hb dX5_of_107 rfl (lv_at hl 0 rfl) ?_
        refine gfX5_10 hx hb hown hts hK hw 0 rfl rfl dX5_of_108 ?_
        refine lv_iload_n hx hb dX5_of_111 rfl (lv_at hl 2 rfl) ?_
        refine zcVma (C1 := (zOW x b t ik fd)) (C2 := (zTW x (t 1) T l1 ++ (zTW x (t 2) K l2 ++ (zPW x b tb tq ++ (zSH x (b 5) (b 9) (bo 0) (so 0) (nn 0) ++ (zSH x (b 6) (b 10) (bo 1) (so 1) (nn 1) ++ (zSH x (b 7) (b 11) (bo 2) (so 2) (nn 2) ++ zSH x (b 8) (b 12) (bo 3) (so 3) (nn 3)))))))) hx hb hml hown hts hl.1 hK hE hA lkX5_112 (c_X3_rowOfHoles_0 x (t 0) S l0) ⟨Nat.le_of_ble_eq_true rfl, Nat.le_of_ble_eq_true rfl⟩ ⟨Nat.zero_le _, Nat.zero_le _⟩ hw 0 2 rfl rfl rfl rfl (Nat.le_of_ble_eq_true rfl) dX5_of_112 (fun H locs hw => ?_)
        have hw : zHw x A s.heap (zHW x b t S l0 T l1 K l2 ik fd tb tq bo so nn) H locs := hw
        refine lv_iload_n hx hb dX5_of_115 rfl (lv_at hl 1 rfl) ?_
        refine zial hx hb hK hw 6 0 i rfl rfl rfl (by omega) (by decide) dX5_of_116 ?_
        exact zFG.iret hx hb hr hlocks hQ hw rfl dX5_of_117 (zPH.mk (r := zm_of S fd (nI i) 0) (v := (S 3) i) (S' := S) (fd' := fd) (by unfold zm_of; rw [if_pos ⟨c8, by decide⟩, if_neg (by decide), if_neg (by decide), if_neg (by decide), if_neg (by decide), zc_nI (show i < 2147483648 by omega)]; rfl))
      · refine lv_aload_n hx hb dX5_of_107 rfl (lv_at hl 0 rfl) ?_
        refine gfX5_10 hx hb hown hts hK hw 0 rfl rfl dX5_of_108 ?_
        refine lv_iload_n hx hb dX5_of_111 rfl (lv_at hl 2 rfl) ?_
        refine zcVma (C1 := (zOW x b t ik fd)) (C2 := (zTW x (t 1) T l1 ++ (zTW x (t 2) K l2 ++ (zPW x b tb tq ++ (zSH x (b 5) (b 9) (bo 0) (so 0) (nn 0) ++ (zSH x (b 6) (b 10) (bo 1) (so 1) (nn 1) ++ (zSH x (b 7) (b 11) (bo 2) (so 2) (nn 2) ++ zSH x (b 8) (b 12) (bo 3) (so 3) (nn 3)))))))) hx hb hml hown hts hl.1 hK hE hA lkX5_112 (c_X3_rowOfHoles_1 x (t 0) S l0) ⟨Nat.le_of_ble_eq_true rfl, Nat.le_of_ble_eq_true rfl⟩ ⟨Nat.zero_le _, Nat.zero_le _⟩ hw 0 2 rfl rfl rfl rfl (Nat.le_of_ble_eq_true rfl) dX5_of_112 (fun H locs hw => ?_)
        have hw : zHw x A s.heap (zHW x b t S l0 T l1 K l2 ik fd tb tq bo so nn) H locs := hw
        refine lv_iload_n hx hb dX5_of_115 rfl (lv_at hl 1 rfl) ?_
        refine zial hx hb hK hw 7 0 i rfl rfl rfl (by omega) (by decide) dX5_of_116 ?_
        exact zFG.iret hx hb hr hlocks hQ hw rfl dX5_of_117 (zPH.mk (r := zm_of S fd (nI i) 1) (v := (S 4) i) (S' := S) (fd' := fd) (by unfold zm_of; rw [if_pos ⟨c8, by decide⟩, if_neg (by decide), if_neg (by decide), if_neg (by decide), if_neg (by decide), zc_nI (show i < 2147483648 by omega)]; rfl))
      · refine lv_aload_n hx hb dX5_of_107 rfl (lv_at hl 0 rfl) ?_
        refine gfX5_10 hx hb hown hts hK hw 0 rfl rfl dX5_of_108 ?_
        refine lv_iload_n hx hb dX5_of_111 rfl (lv_at hl 2 rfl) ?_
        refine zcVma (C1 := (zOW x b t ik fd)) (C2 := (zTW x (t 1) T l1 ++ (zTW x (t 2) K l2 ++ (zPW x b tb tq ++ (zSH x (b 5) (b 9) (bo 0) (so 0) (nn 0) ++ (zSH x (b 6) (b 10) (bo 1) (so 1) (nn 1) ++ (zSH x (b 7) (b 11) (bo 2) (so 2) (nn 2) ++ zSH x (b 8) (b 12) (bo 3) (so 3) (nn 3)))))))) hx hb hml hown hts hl.1 hK hE hA lkX5_112 (c_X3_rowOfHoles_2 x (t 0) S l0) ⟨Nat.le_of_ble_eq_true rfl, Nat.le_of_ble_eq_true rfl⟩ ⟨Nat.zero_le _, Nat.zero_le _⟩ hw 0 2 rfl rfl rfl rfl (Nat.le_of_ble_eq_true rfl) dX5_of_112 (fun H locs hw => ?_)
        have hw : zHw x A s.heap (zHW x b t S l0 T l1 K l2 ik fd tb tq bo so nn) H locs := hw
        refine lv_iload_n hx hb dX5_of_115 rfl (lv_at hl 1 rfl) ?_
        refine zial hx hb hK hw 8 0 i rfl rfl rfl (by omega) (by decide) dX5_of_116 ?_
        exact zFG.iret hx hb hr hlocks hQ hw rfl dX5_of_117 (zPH.mk (r := zm_of S fd (nI i) 2) (v := (S 5) i) (S' := S) (fd' := fd) (by unfold zm_of; rw [if_pos ⟨c8, by decide⟩, if_neg (by decide), if_neg (by decide), if_neg (by decide), if_neg (by decide), zc_nI (show i < 2147483648 by omega)]; rfl))
      · refine lv_aload_n hx hb dX5_of_107 rfl (lv_at hl 0 rfl) ?_
        refine gfX5_10 hx hb hown hts hK hw 0 rfl rfl dX5_of_108 ?_
        refine lv_iload_n hx hb dX5_of_111 rfl (lv_at hl 2 rfl) ?_
        refine zcVma (C1 := (zOW x b t ik fd)) (C2 := (zTW x (t 1) T l1 ++ (zTW x (t 2) K l2 ++ (zPW x b tb tq ++ (zSH x (b 5) (b 9) (bo 0) (so 0) (nn 0) ++ (zSH x (b 6) (b 10) (bo 1) (so 1) (nn 1) ++ (zSH x (b 7) (b 11) (bo 2) (so 2) (nn 2) ++ zSH x (b 8) (b 12) (bo 3) (so 3) (nn 3)))))))) hx hb hml hown hts hl.1 hK hE hA lkX5_112 (c_X3_rowOfHoles_3 x (t 0) S l0) ⟨Nat.le_of_ble_eq_true rfl, Nat.le_of_ble_eq_true rfl⟩ ⟨Nat.zero_le _, Nat.zero_le _⟩ hw 0 2 rfl rfl rfl rfl (Nat.le_of_ble_eq_true rfl) dX5_of_112 (fun H locs hw => ?_)
        have hw : zHw x A s.heap (zHW x b t S l0 T l1 K l2 ik fd tb tq bo so nn) H locs := hw
        refine lv_iload_n hx hb dX5_of_115 rfl (lv_at hl 1 rfl) ?_
        refine zial hx hb hK hw 9 0 i rfl rfl rfl (by omega) (by decide) dX5_of_116 ?_
        exact zFG.iret hx hb hr hlocks hQ hw rfl dX5_of_117 (zPH.mk (r := zm_of S fd (nI i) 3) (v := (S 6) i) (S' := S) (fd' := fd) (by unfold zm_of; rw [if_pos ⟨c8, by decide⟩, if_neg (by decide), if_neg (by decide), if_neg (by decide), if_neg (by decide), zc_nI (show i < 2147483648 by omega)]; rfl))
      · refine lv_aload_n hx hb dX5_of_107 rfl (lv_at hl 0 rfl) ?_
        refine gfX5_10 hx hb hown hts hK hw 0 rfl rfl dX5_of_108 ?_
        refine lv_iload_n hx hb dX5_of_111 rfl (lv_at hl 2 rfl) ?_
        refine zcVma (C1 := (zOW x b t ik fd)) (C2 := (zTW x (t 1) T l1 ++ (zTW x (t 2) K l2 ++ (zPW x b tb tq ++ (zSH x (b 5) (b 9) (bo 0) (so 0) (nn 0) ++ (zSH x (b 6) (b 10) (bo 1) (so 1) (nn 1) ++ (zSH x (b 7) (b 11) (bo 2) (so 2) (nn 2) ++ zSH x (b 8) (b 12) (bo 3) (so 3) (nn 3)))))))) hx hb hml hown hts hl.1 hK hE hA lkX5_112 (c_X3_rowOfHoles_4 x (t 0) S l0) ⟨Nat.le_of_ble_eq_true rfl, Nat.le_of_ble_eq_true rfl⟩ ⟨Nat.zero_le _, Nat.zero_le _⟩ hw 0 2 rfl rfl rfl rfl (Nat.le_of_ble_eq_true rfl) dX5_of_112 (fun H locs hw => ?_)
        have hw : zHw x A s.heap (zHW x b t S l0 T l1 K l2 ik fd tb tq bo so nn) H locs := hw
        refine lv_iload_n hx hb dX5_of_115 rfl (lv_at hl 1 rfl) ?_
        refine zial hx hb hK hw 10 0 i rfl rfl rfl (by omega) (by decide) dX5_of_116 ?_
        exact zFG.iret hx hb hr hlocks hQ hw rfl dX5_of_117 (zPH.mk (r := zm_of S fd (nI i) 4) (v := (S 7) i) (S' := S) (fd' := fd) (by unfold zm_of; rw [if_pos ⟨c8, by decide⟩, if_neg (by decide), if_neg (by decide), if_neg (by decide), if_neg (by decide), zc_nI (show i < 2147483648 by omega)]; rfl))
      · refine lv_aload_n hx hb dX5_of_107 rfl (lv_at hl 0 rfl) ?_
        refine gfX5_10 hx hb hown hts hK hw 0 rfl rfl dX5_of_108 ?_
        refine lv_iload_n hx hb dX5_of_111 rfl (lv_at hl 2 rfl) ?_
        refine zcVma (C1 := (zOW x b t ik fd)) (C2 := (zTW x (t 1) T l1 ++ (zTW x (t 2) K l2 ++ (zPW x b tb tq ++ (zSH x (b 5) (b 9) (bo 0) (so 0) (nn 0) ++ (zSH x (b 6) (b 10) (bo 1) (so 1) (nn 1) ++ (zSH x (b 7) (b 11) (bo 2) (so 2) (nn 2) ++ zSH x (b 8) (b 12) (bo 3) (so 3) (nn 3)))))))) hx hb hml hown hts hl.1 hK hE hA lkX5_112 (c_X3_rowOfHoles_5 x (t 0) S l0) ⟨Nat.le_of_ble_eq_true rfl, Nat.le_of_ble_eq_true rfl⟩ ⟨Nat.zero_le _, Nat.zero_le _⟩ hw 0 2 rfl rfl rfl rfl (Nat.le_of_ble_eq_true rfl) dX5_of_112 (fun H locs hw => ?_)
        have hw : zHw x A s.heap (zHW x b t S l0 T l1 K l2 ik fd tb tq bo so nn) H locs := hw
        refine lv_iload_n hx hb dX5_of_115 rfl (lv_at hl 1 rfl) ?_
        refine zial hx hb hK hw 11 0 i rfl rfl rfl (by omega) (by decide) dX5_of_116 ?_
        exact zFG.iret hx hb hr hlocks hQ hw rfl dX5_of_117 (zPH.mk (r := zm_of S fd (nI i) 5) (v := (S 8) i) (S' := S) (fd' := fd) (by unfold zm_of; rw [if_pos ⟨c8, by decide⟩, if_neg (by decide), if_neg (by decide), if_neg (by decide), if_neg (by decide), zc_nI (show i < 2147483648 by omega)]; rfl))
    · have c18 := zb_0.mp c18
      refine lv_aload_n hx hb dX5_of_21 rfl (lv_at hl 0 rfl) ?_
      refine lv_ldc (v := (-1000000001)) hx hb hown (hts _ ckX5_51) dX5_of_22 ?_
      refine zcVwi (r := (-1000000001)) hx hb hml hown hts hl.1 hK hE hA lkX5_52 (c_X5_found x b t S l0 T l1 K l2 ik fd tb tq bo so nn (-1000000001) 0 (by decide) (by decide)) ⟨Nat.le_of_ble_eq_true rfl, Nat.le_of_ble_eq_true rfl⟩ ⟨Nat.zero_le _, Nat.zero_le _⟩ hw 0 3 rfl rfl rfl rfl (Nat.le_of_ble_eq_true rfl) dX5_of_24 (fun H locs hw => ?_)
      have hw : zHw x A s.heap (zHW x b t S l0 T l1 K l2 ik (upd fd 0 (fd 0 + 1)) tb tq bo so nn) H locs := hw
      exact zFG.iret hx hb hr hlocks hQ hw rfl dX5_of_27 (zPH.mk (r := zm_of S fd h w) (v := (-1000000001)) (S' := S) (fd' := zFd fd 0) (by unfold zm_of; first | (rw [if_neg (fun h => c18 h.2)]; rfl) | (rw [if_neg (fun h => c8 h.1)]; rfl)))

set_option maxHeartbeats 4000000 in
set_option maxRecDepth 100000 in
theorem c_X5_set (x : zX) (b : Nat → Nat) (t : Nat → Nat → Nat) (S : zT) (l0 : Int32) (T : zT) (l1 : Int32) (K : zT) (l2 ik : Int32) (fd tb tq bo so : Nat → Int32) (nn : Nat → Nat → Int64) (h w v : Int32) (hI : zInv S) : zFG x mX5_set 1 [.ref (b 0), .int h, .int w, .int v] (zHW x b t S l0 T l1 K l2 ik fd tb tq bo so nn) (zPH x b t K l2 ik tb tq bo so nn (zm_set S fd h w v)) := by
  refine zFG.start RX5 cX5_set 4 (some .int) rfl rfl (by decide +kernel) (Nat.le_of_ble_eq_true rfl) ?_
  intro p e s m ar below meth c ls A Q hx hb hr hml hown hts hlocks hK hE hA hQ hl hw
  have hl : lv_has ls 4 [(0, .ref (b 0)), (1, .int h), (2, .int w), (3, .int v)] := hl
  have hw : zHw x A s.heap (zHW x b t S l0 T l1 K l2 ik fd tb tq bo so nn) s.heap [] := hw
  refine lv_aload_n hx hb dX5_set_0 rfl (lv_at hl 0 rfl) ?_
  refine gfX5_10 hx hb hown hts hK hw 0 rfl rfl dX5_set_1 ?_
  refine lv_iload_n hx hb dX5_set_4 rfl (lv_at hl 1 rfl) ?_
  refine zcVmi (r := zb (0 ≤ h ∧ h < S 0 0)) (C1 := (zOW x b t ik fd)) (C2 := (zTW x (t 1) T l1 ++ (zTW x (t 2) K l2 ++ (zPW x b tb tq ++ (zSH x (b 5) (b 9) (bo 0) (so 0) (nn 0) ++ (zSH x (b 6) (b 10) (bo 1) (so 1) (nn 1) ++ (zSH x (b 7) (b 11) (bo 2) (so 2) (nn 2) ++ zSH x (b 8) (b 12) (bo 3) (so 3) (nn 3)))))))) hx hb hml hown hts hl.1 hK hE hA lkX5_95 (c_X3_has x (t 0) S l0 h) ⟨Nat.le_of_ble_eq_true rfl, Nat.le_of_ble_eq_true rfl⟩ ⟨Nat.zero_le _, Nat.zero_le _⟩ hw 0 2 rfl rfl rfl rfl (Nat.le_of_ble_eq_true rfl) dX5_set_5 (fun H locs hw => ?_)
  have hw : zHw x A s.heap (zHW x b t S l0 T l1 K l2 ik fd tb tq bo so nn) H locs := hw
  refine lv_if_eq (tgt := 33) hx hb dX5_set_8 (by decide) (fun c8 => ?_) (fun c8 => ?_)
  · have c8 := zb_0.mp c8
    refine lv_aload_n hx hb dX5_set_33 rfl (lv_at hl 0 rfl) ?_
    refine lv_ldc (v := (-1000000001)) hx hb hown (hts _ ckX5_51) dX5_set_34 ?_
    refine zcVwi (r := (-1000000001)) hx hb hml hown hts hl.1 hK hE hA lkX5_52 (c_X5_found x b t S l0 T l1 K l2 ik fd tb tq bo so nn (-1000000001) 0 (by decide) (by decide)) ⟨Nat.le_of_ble_eq_true rfl, Nat.le_of_ble_eq_true rfl⟩ ⟨Nat.zero_le _, Nat.zero_le _⟩ hw 0 3 rfl rfl rfl rfl (Nat.le_of_ble_eq_true rfl) dX5_set_36 (fun H locs hw => ?_)
    have hw : zHw x A s.heap (zHW x b t S l0 T l1 K l2 ik (upd fd 0 (fd 0 + 1)) tb tq bo so nn) H locs := hw
    exact zFG.iret hx hb hr hlocks hQ hw rfl dX5_set_39 (zPH.mk (r := zm_set S fd h w v) (v := (-1000000001)) (S' := S) (fd' := zFd fd 0) (by unfold zm_set; first | (rw [if_neg (fun h => c17 h.2.1)]; rfl) | (rw [if_neg (fun h => c8 h.1)]; rfl)))
  · have c8 := zb_n0.mp c8
    obtain ⟨i, hi8, hiN, rfl⟩ := zH_nat hI c8
    refine lv_iload_n hx hb dX5_set_11 rfl (lv_at hl 2 rfl) ?_
    refine lv_iconst (v := 1) hx hb dX5_set_12 (by decide) ?_
    refine lv_iconst (v := 5) hx hb dX5_set_13 (by decide) ?_
    refine zcSwi (r := zb (1 ≤ w ∧ w ≤ 5)) hx hb hml hown hts hl.1 hK hE hA lkX5_44 (c_X5_within x (zHW x b t S l0 T l1 K l2 ik fd tb tq bo so nn) w 1 5) ⟨Nat.le_of_ble_eq_true rfl, Nat.le_of_ble_eq_true rfl⟩ ⟨Nat.zero_le _, Nat.zero_le _⟩ hw rfl rfl (Nat.le_of_ble_eq_true rfl) dX5_set_14 (fun H locs hw => ?_)
    have hw : zHw x A s.heap (zHW x b t S l0 T l1 K l2 ik fd tb tq bo so nn) H locs := hw
    refine lv_if_eq (tgt := 33) hx hb dX5_set_17 (by decide) (fun c17 => ?_) (fun c17 => ?_)
    · have c17 := zb_0.mp c17
      refine lv_aload_n hx hb dX5_set_33 rfl (lv_at hl 0 rfl) ?_
      refine lv_ldc (v := (-1000000001)) hx hb hown (hts _ ckX5_51) dX5_set_34 ?_
      refine zcVwi (r := (-1000000001)) hx hb hml hown hts hl.1 hK hE hA lkX5_52 (c_X5_found x b t S l0 T l1 K l2 ik fd tb tq bo so nn (-1000000001) 0 (by decide) (by decide)) ⟨Nat.le_of_ble_eq_true rfl, Nat.le_of_ble_eq_true rfl⟩ ⟨Nat.zero_le _, Nat.zero_le _⟩ hw 0 3 rfl rfl rfl rfl (Nat.le_of_ble_eq_true rfl) dX5_set_36 (fun H locs hw => ?_)
      have hw : zHw x A s.heap (zHW x b t S l0 T l1 K l2 ik (upd fd 0 (fd 0 + 1)) tb tq bo so nn) H locs := hw
      exact zFG.iret hx hb hr hlocks hQ hw rfl dX5_set_39 (zPH.mk (r := zm_set S fd (nI i) w v) (v := (-1000000001)) (S' := S) (fd' := zFd fd 0) (by unfold zm_set; first | (rw [if_neg (fun h => c17 h.2.1)]; rfl) | (rw [if_neg (fun h => c8 h.1)]; rfl)))
    · have c17 := zb_n0.mp c17
      rcases zcase15 c17 with rfl | rfl | rfl | rfl | rfl
      · refine lv_iload_n hx hb dX5_set_20 rfl (lv_at hl 3 rfl) ?_
        refine lv_iconst (v := 0) hx hb dX5_set_21 (by decide) ?_
        refine zgst2 hx hb hE hw hown hts dX5_set_22 ?_
        refine lv_iload_n hx hb dX5_set_25 rfl (lv_at hl 2 rfl) ?_
        refine zsta2 (v := 5) hx hb hE hw 1 (by decide) (rfl) dX5_set_26 ?_
        refine zcSwi (r := zb (0 ≤ v ∧ v ≤ 5)) hx hb hml hown hts hl.1 hK hE hA lkX5_44 (c_X5_within x (zHW x b t S l0 T l1 K l2 ik fd tb tq bo so nn) v 0 5) ⟨Nat.le_of_ble_eq_true rfl, Nat.le_of_ble_eq_true rfl⟩ ⟨Nat.zero_le _, Nat.zero_le _⟩ hw rfl rfl (Nat.le_of_ble_eq_true rfl) dX5_set_27 (fun H locs hw => ?_)
        have hw : zHw x A s.heap (zHW x b t S l0 T l1 K l2 ik fd tb tq bo so nn) H locs := hw
        refine lv_if_ne (tgt := 40) hx hb dX5_set_30 (by decide) (fun c30 => ?_) (fun c30 => ?_)
        · have c30 := zb_n0.mp c30
          refine lv_aload_n hx hb dX5_set_40 rfl (lv_at hl 0 rfl) ?_
          refine gfX5_10 hx hb hown hts hK hw 0 rfl rfl dX5_set_41 ?_
          refine lv_iload_n hx hb dX5_set_44 rfl (lv_at hl 2 rfl) ?_
          refine zcVma (C1 := (zOW x b t ik fd)) (C2 := (zTW x (t 1) T l1 ++ (zTW x (t 2) K l2 ++ (zPW x b tb tq ++ (zSH x (b 5) (b 9) (bo 0) (so 0) (nn 0) ++ (zSH x (b 6) (b 10) (bo 1) (so 1) (nn 1) ++ (zSH x (b 7) (b 11) (bo 2) (so 2) (nn 2) ++ zSH x (b 8) (b 12) (bo 3) (so 3) (nn 3)))))))) hx hb hml hown hts hl.1 hK hE hA lkX5_112 (c_X3_rowOfHoles_1 x (t 0) S l0) ⟨Nat.le_of_ble_eq_true rfl, Nat.le_of_ble_eq_true rfl⟩ ⟨Nat.zero_le _, Nat.zero_le _⟩ hw 0 2 rfl rfl rfl rfl (Nat.le_of_ble_eq_true rfl) dX5_set_45 (fun H locs hw => ?_)
          have hw : zHw x A s.heap (zHW x b t S l0 T l1 K l2 ik fd tb tq bo so nn) H locs := hw
          refine lv_iload_n hx hb dX5_set_48 rfl (lv_at hl 1 rfl) ?_
          refine lv_iload_n hx hb dX5_set_49 rfl (lv_at hl 3 rfl) ?_
          refine zcSmi (r := S 4 i) (C1 := (zOW x b t ik fd)) (C2 := (zTW x (t 1) T l1 ++ (zTW x (t 2) K l2 ++ (zPW x b tb tq ++ (zSH x (b 5) (b 9) (bo 0) (so 0) (nn 0) ++ (zSH x (b 6) (b 10) (bo 1) (so 1) (nn 1) ++ (zSH x (b 7) (b 11) (bo 2) (so 2) (nn 2) ++ zSH x (b 8) (b 12) (bo 3) (so 3) (nn 3)))))))) hx hb hml hown hts hl.1 hK hE hA lkX5_73 (c_X5_put_4 x (t 0) S l0 i v (by omega)) ⟨Nat.le_of_ble_eq_true rfl, Nat.le_of_ble_eq_true rfl⟩ ⟨Nat.zero_le _, Nat.zero_le _⟩ hw rfl rfl (Nat.le_of_ble_eq_true rfl) dX5_set_50 (fun H locs hw => ?_)
          have hw : zHw x A s.heap (zHW x b t (zU S 4 i v) l0 T l1 K l2 ik fd tb tq bo so nn) H locs := hw
          exact zFG.iret hx hb hr hlocks hQ hw rfl dX5_set_53 (zPH.mk (r := zm_set S fd (nI i) 1 v) (v := S 4 i) (S' := zU S 4 i v) (fd' := fd) (by unfold zm_set; rw [if_pos ⟨c8, by decide, c30⟩, zc_nI (show i < 2147483648 by omega)]; rfl))
        · have c30 := zb_0.mp c30
          refine lv_aload_n hx hb dX5_set_33 rfl (lv_at hl 0 rfl) ?_
          refine lv_ldc (v := (-1000000001)) hx hb hown (hts _ ckX5_51) dX5_set_34 ?_
          refine zcVwi (r := (-1000000001)) hx hb hml hown hts hl.1 hK hE hA lkX5_52 (c_X5_found x b t S l0 T l1 K l2 ik fd tb tq bo so nn (-1000000001) 0 (by decide) (by decide)) ⟨Nat.le_of_ble_eq_true rfl, Nat.le_of_ble_eq_true rfl⟩ ⟨Nat.zero_le _, Nat.zero_le _⟩ hw 0 3 rfl rfl rfl rfl (Nat.le_of_ble_eq_true rfl) dX5_set_36 (fun H locs hw => ?_)
          have hw : zHw x A s.heap (zHW x b t S l0 T l1 K l2 ik (upd fd 0 (fd 0 + 1)) tb tq bo so nn) H locs := hw
          exact zFG.iret hx hb hr hlocks hQ hw rfl dX5_set_39 (zPH.mk (r := zm_set S fd (nI i) 1 v) (v := (-1000000001)) (S' := S) (fd' := zFd fd 0) (by unfold zm_set; rw [if_neg (fun h => c30 h.2.2)]; rfl))
      · refine lv_iload_n hx hb dX5_set_20 rfl (lv_at hl 3 rfl) ?_
        refine lv_iconst (v := 0) hx hb dX5_set_21 (by decide) ?_
        refine zgst2 hx hb hE hw hown hts dX5_set_22 ?_
        refine lv_iload_n hx hb dX5_set_25 rfl (lv_at hl 2 rfl) ?_
        refine zsta2 (v := 99) hx hb hE hw 2 (by decide) (rfl) dX5_set_26 ?_
        refine zcSwi (r := zb (0 ≤ v ∧ v ≤ 99)) hx hb hml hown hts hl.1 hK hE hA lkX5_44 (c_X5_within x (zHW x b t S l0 T l1 K l2 ik fd tb tq bo so nn) v 0 99) ⟨Nat.le_of_ble_eq_true rfl, Nat.le_of_ble_eq_true rfl⟩ ⟨Nat.zero_le _, Nat.zero_le _⟩ hw rfl rfl (Nat.le_of_ble_eq_true rfl) dX5_set_27 (fun H locs hw => ?_)
        have hw : zHw x A s.heap (zHW x b t S l0 T l1 K l2 ik fd tb tq bo so nn) H locs := hw
        refine lv_if_ne (tgt := 40) hx hb dX5_set_30 (by decide) (fun c30 => ?_) (fun c30 => ?_)
        · have c30 := zb_n0.mp c30
          refine lv_aload_n hx hb dX5_set_40 rfl (lv_at hl 0 rfl) ?_
          refine gfX5_10 hx hb hown hts hK hw 0 rfl rfl dX5_set_41 ?_
          refine lv_iload_n hx hb dX5_set_44 rfl (lv_at hl 2 rfl) ?_
          refine zcVma (C1 := (zOW x b t ik fd)) (C2 := (zTW x (t 1) T l1 ++ (zTW x (t 2) K l2 ++ (zPW x b tb tq ++ (zSH x (b 5) (b 9) (bo 0) (so 0) (nn 0) ++ (zSH x (b 6) (b 10) (bo 1) (so 1) (nn 1) ++ (zSH x (b 7) (b 11) (bo 2) (so 2) (nn 2) ++ zSH x (b 8) (b 12) (bo 3) (so 3) (nn 3)))))))) hx hb hml hown hts hl.1 hK hE hA lkX5_112 (c_X3_rowOfHoles_2 x (t 0) S l0) ⟨Nat.le_of_ble_eq_true rfl, Nat.le_of_ble_eq_true rfl⟩ ⟨Nat.zero_le _, Nat.zero_le _⟩ hw 0 2 rfl rfl rfl rfl (Nat.le_of_ble_eq_true rfl) dX5_set_45 (fun H locs hw => ?_)
          have hw : zHw x A s.heap (zHW x b t S l0 T l1 K l2 ik fd tb tq bo so nn) H locs := hw
          refine lv_iload_n hx hb dX5_set_48 rfl (lv_at hl 1 rfl) ?_
          refine lv_iload_n hx hb dX5_set_49 rfl (lv_at hl 3 rfl) ?_
          refine zcSmi (r := S 5 i) (C1 := (zOW x b t ik fd)) (C2 := (zTW x (t 1) T l1 ++ (zTW x (t 2) K l2 ++ (zPW x b tb tq ++ (zSH x (b 5) (b 9) (bo 0) (so 0) (nn 0) ++ (zSH x (b 6) (b 10) (bo 1) (so 1) (nn 1) ++ (zSH x (b 7) (b 11) (bo 2) (so 2) (nn 2) ++ zSH x (b 8) (b 12) (bo 3) (so 3) (nn 3)))))))) hx hb hml hown hts hl.1 hK hE hA lkX5_73 (c_X5_put_5 x (t 0) S l0 i v (by omega)) ⟨Nat.le_of_ble_eq_true rfl, Nat.le_of_ble_eq_true rfl⟩ ⟨Nat.zero_le _, Nat.zero_le _⟩ hw rfl rfl (Nat.le_of_ble_eq_true rfl) dX5_set_50 (fun H locs hw => ?_)
          have hw : zHw x A s.heap (zHW x b t (zU S 5 i v) l0 T l1 K l2 ik fd tb tq bo so nn) H locs := hw
          exact zFG.iret hx hb hr hlocks hQ hw rfl dX5_set_53 (zPH.mk (r := zm_set S fd (nI i) 2 v) (v := S 5 i) (S' := zU S 5 i v) (fd' := fd) (by unfold zm_set; rw [if_pos ⟨c8, by decide, c30⟩, zc_nI (show i < 2147483648 by omega)]; rfl))
        · have c30 := zb_0.mp c30
          refine lv_aload_n hx hb dX5_set_33 rfl (lv_at hl 0 rfl) ?_
          refine lv_ldc (v := (-1000000001)) hx hb hown (hts _ ckX5_51) dX5_set_34 ?_
          refine zcVwi (r := (-1000000001)) hx hb hml hown hts hl.1 hK hE hA lkX5_52 (c_X5_found x b t S l0 T l1 K l2 ik fd tb tq bo so nn (-1000000001) 0 (by decide) (by decide)) ⟨Nat.le_of_ble_eq_true rfl, Nat.le_of_ble_eq_true rfl⟩ ⟨Nat.zero_le _, Nat.zero_le _⟩ hw 0 3 rfl rfl rfl rfl (Nat.le_of_ble_eq_true rfl) dX5_set_36 (fun H locs hw => ?_)
          have hw : zHw x A s.heap (zHW x b t S l0 T l1 K l2 ik (upd fd 0 (fd 0 + 1)) tb tq bo so nn) H locs := hw
          exact zFG.iret hx hb hr hlocks hQ hw rfl dX5_set_39 (zPH.mk (r := zm_set S fd (nI i) 2 v) (v := (-1000000001)) (S' := S) (fd' := zFd fd 0) (by unfold zm_set; rw [if_neg (fun h => c30 h.2.2)]; rfl))
      · refine lv_iload_n hx hb dX5_set_20 rfl (lv_at hl 3 rfl) ?_
        refine lv_iconst (v := 0) hx hb dX5_set_21 (by decide) ?_
        refine zgst2 hx hb hE hw hown hts dX5_set_22 ?_
        refine lv_iload_n hx hb dX5_set_25 rfl (lv_at hl 2 rfl) ?_
        refine zsta2 (v := 2) hx hb hE hw 3 (by decide) (rfl) dX5_set_26 ?_
        refine zcSwi (r := zb (0 ≤ v ∧ v ≤ 2)) hx hb hml hown hts hl.1 hK hE hA lkX5_44 (c_X5_within x (zHW x b t S l0 T l1 K l2 ik fd tb tq bo so nn) v 0 2) ⟨Nat.le_of_ble_eq_true rfl, Nat.le_of_ble_eq_true rfl⟩ ⟨Nat.zero_le _, Nat.zero_le _⟩ hw rfl rfl (Nat.le_of_ble_eq_true rfl) dX5_set_27 (fun H locs hw => ?_)
        have hw : zHw x A s.heap (zHW x b t S l0 T l1 K l2 ik fd tb tq bo so nn) H locs := hw
        refine lv_if_ne (tgt := 40) hx hb dX5_set_30 (by decide) (fun c30 => ?_) (fun c30 => ?_)
        · have c30 := zb_n0.mp c30
          refine lv_aload_n hx hb dX5_set_40 rfl (lv_at hl 0 rfl) ?_
          refine gfX5_10 hx hb hown hts hK hw 0 rfl rfl dX5_set_41 ?_
          refine lv_iload_n hx hb dX5_set_44 rfl (lv_at hl 2 rfl) ?_
          refine zcVma (C1 := (zOW x b t ik fd)) (C2 := (zTW x (t 1) T l1 ++ (zTW x (t 2) K l2 ++ (zPW x b tb tq ++ (zSH x (b 5) (b 9) (bo 0) (so 0) (nn 0) ++ (zSH x (b 6) (b 10) (bo 1) (so 1) (nn 1) ++ (zSH x (b 7) (b 11) (bo 2) (so 2) (nn 2) ++ zSH x (b 8) (b 12) (bo 3) (so 3) (nn 3)))))))) hx hb hml hown hts hl.1 hK hE hA lkX5_112 (c_X3_rowOfHoles_3 x (t 0) S l0) ⟨Nat.le_of_ble_eq_true rfl, Nat.le_of_ble_eq_true rfl⟩ ⟨Nat.zero_le _, Nat.zero_le _⟩ hw 0 2 rfl rfl rfl rfl (Nat.le_of_ble_eq_true rfl) dX5_set_45 (fun H locs hw => ?_)
          have hw : zHw x A s.heap (zHW x b t S l0 T l1 K l2 ik fd tb tq bo so nn) H locs := hw
          refine lv_iload_n hx hb dX5_set_48 rfl (lv_at hl 1 rfl) ?_
          refine lv_iload_n hx hb dX5_set_49 rfl (lv_at hl 3 rfl) ?_
          refine zcSmi (r := S 6 i) (C1 := (zOW x b t ik fd)) (C2 := (zTW x (t 1) T l1 ++ (zTW x (t 2) K l2 ++ (zPW x b tb tq ++ (zSH x (b 5) (b 9) (bo 0) (so 0) (nn 0) ++ (zSH x (b 6) (b 10) (bo 1) (so 1) (nn 1) ++ (zSH x (b 7) (b 11) (bo 2) (so 2) (nn 2) ++ zSH x (b 8) (b 12) (bo 3) (so 3) (nn 3)))))))) hx hb hml hown hts hl.1 hK hE hA lkX5_73 (c_X5_put_6 x (t 0) S l0 i v (by omega)) ⟨Nat.le_of_ble_eq_true rfl, Nat.le_of_ble_eq_true rfl⟩ ⟨Nat.zero_le _, Nat.zero_le _⟩ hw rfl rfl (Nat.le_of_ble_eq_true rfl) dX5_set_50 (fun H locs hw => ?_)
          have hw : zHw x A s.heap (zHW x b t (zU S 6 i v) l0 T l1 K l2 ik fd tb tq bo so nn) H locs := hw
          exact zFG.iret hx hb hr hlocks hQ hw rfl dX5_set_53 (zPH.mk (r := zm_set S fd (nI i) 3 v) (v := S 6 i) (S' := zU S 6 i v) (fd' := fd) (by unfold zm_set; rw [if_pos ⟨c8, by decide, c30⟩, zc_nI (show i < 2147483648 by omega)]; rfl))
        · have c30 := zb_0.mp c30
          refine lv_aload_n hx hb dX5_set_33 rfl (lv_at hl 0 rfl) ?_
          refine lv_ldc (v := (-1000000001)) hx hb hown (hts _ ckX5_51) dX5_set_34 ?_
          refine zcVwi (r := (-1000000001)) hx hb hml hown hts hl.1 hK hE hA lkX5_52 (c_X5_found x b t S l0 T l1 K l2 ik fd tb tq bo so nn (-1000000001) 0 (by decide) (by decide)) ⟨Nat.le_of_ble_eq_true rfl, Nat.le_of_ble_eq_true rfl⟩ ⟨Nat.zero_le _, Nat.zero_le _⟩ hw 0 3 rfl rfl rfl rfl (Nat.le_of_ble_eq_true rfl) dX5_set_36 (fun H locs hw => ?_)
          have hw : zHw x A s.heap (zHW x b t S l0 T l1 K l2 ik (upd fd 0 (fd 0 + 1)) tb tq bo so nn) H locs := hw
          exact zFG.iret hx hb hr hlocks hQ hw rfl dX5_set_39 (zPH.mk (r := zm_set S fd (nI i) 3 v) (v := (-1000000001)) (S' := S) (fd' := zFd fd 0) (by unfold zm_set; rw [if_neg (fun h => c30 h.2.2)]; rfl))
      · refine lv_iload_n hx hb dX5_set_20 rfl (lv_at hl 3 rfl) ?_
        refine lv_iconst (v := 0) hx hb dX5_set_21 (by decide) ?_
        refine zgst2 hx hb hE hw hown hts dX5_set_22 ?_
        refine lv_iload_n hx hb dX5_set_25 rfl (lv_at hl 2 rfl) ?_
        refine zsta2 (v := 999) hx hb hE hw 4 (by decide) (rfl) dX5_set_26 ?_
        refine zcSwi (r := zb (0 ≤ v ∧ v ≤ 999)) hx hb hml hown hts hl.1 hK hE hA lkX5_44 (c_X5_within x (zHW x b t S l0 T l1 K l2 ik fd tb tq bo so nn) v 0 999) ⟨Nat.le_of_ble_eq_true rfl, Nat.le_of_ble_eq_true rfl⟩ ⟨Nat.zero_le _, Nat.zero_le _⟩ hw rfl rfl (Nat.le_of_ble_eq_true rfl) dX5_set_27 (fun H locs hw => ?_)
        have hw : zHw x A s.heap (zHW x b t S l0 T l1 K l2 ik fd tb tq bo so nn) H locs := hw
        refine lv_if_ne (tgt := 40) hx hb dX5_set_30 (by decide) (fun c30 => ?_) (fun c30 => ?_)
        · have c30 := zb_n0.mp c30
          refine lv_aload_n hx hb dX5_set_40 rfl (lv_at hl 0 rfl) ?_
          refine gfX5_10 hx hb hown hts hK hw 0 rfl rfl dX5_set_41 ?_
          refine lv_iload_n hx hb dX5_set_44 rfl (lv_at hl 2 rfl) ?_
          refine zcVma (C1 := (zOW x b t ik fd)) (C2 := (zTW x (t 1) T l1 ++ (zTW x (t 2) K l2 ++ (zPW x b tb tq ++ (zSH x (b 5) (b 9) (bo 0) (so 0) (nn 0) ++ (zSH x (b 6) (b 10) (bo 1) (so 1) (nn 1) ++ (zSH x (b 7) (b 11) (bo 2) (so 2) (nn 2) ++ zSH x (b 8) (b 12) (bo 3) (so 3) (nn 3)))))))) hx hb hml hown hts hl.1 hK hE hA lkX5_112 (c_X3_rowOfHoles_4 x (t 0) S l0) ⟨Nat.le_of_ble_eq_true rfl, Nat.le_of_ble_eq_true rfl⟩ ⟨Nat.zero_le _, Nat.zero_le _⟩ hw 0 2 rfl rfl rfl rfl (Nat.le_of_ble_eq_true rfl) dX5_set_45 (fun H locs hw => ?_)
          have hw : zHw x A s.heap (zHW x b t S l0 T l1 K l2 ik fd tb tq bo so nn) H locs := hw
          refine lv_iload_n hx hb dX5_set_48 rfl (lv_at hl 1 rfl) ?_
          refine lv_iload_n hx hb dX5_set_49 rfl (lv_at hl 3 rfl) ?_
          refine zcSmi (r := S 7 i) (C1 := (zOW x b t ik fd)) (C2 := (zTW x (t 1) T l1 ++ (zTW x (t 2) K l2 ++ (zPW x b tb tq ++ (zSH x (b 5) (b 9) (bo 0) (so 0) (nn 0) ++ (zSH x (b 6) (b 10) (bo 1) (so 1) (nn 1) ++ (zSH x (b 7) (b 11) (bo 2) (so 2) (nn 2) ++ zSH x (b 8) (b 12) (bo 3) (so 3) (nn 3)))))))) hx hb hml hown hts hl.1 hK hE hA lkX5_73 (c_X5_put_7 x (t 0) S l0 i v (by omega)) ⟨Nat.le_of_ble_eq_true rfl, Nat.le_of_ble_eq_true rfl⟩ ⟨Nat.zero_le _, Nat.zero_le _⟩ hw rfl rfl (Nat.le_of_ble_eq_true rfl) dX5_set_50 (fun H locs hw => ?_)
          have hw : zHw x A s.heap (zHW x b t (zU S 7 i v) l0 T l1 K l2 ik fd tb tq bo so nn) H locs := hw
          exact zFG.iret hx hb hr hlocks hQ hw rfl dX5_set_53 (zPH.mk (r := zm_set S fd (nI i) 4 v) (v := S 7 i) (S' := zU S 7 i v) (fd' := fd) (by unfold zm_set; rw [if_pos ⟨c8, by decide, c30⟩, zc_nI (show i < 2147483648 by omega)]; rfl))
        · have c30 := zb_0.mp c30
          refine lv_aload_n hx hb dX5_set_33 rfl (lv_at hl 0 rfl) ?_
          refine lv_ldc (v := (-1000000001)) hx hb hown (hts _ ckX5_51) dX5_set_34 ?_
          refine zcVwi (r := (-1000000001)) hx hb hml hown hts hl.1 hK hE hA lkX5_52 (c_X5_found x b t S l0 T l1 K l2 ik fd tb tq bo so nn (-1000000001) 0 (by decide) (by decide)) ⟨Nat.le_of_ble_eq_true rfl, Nat.le_of_ble_eq_true rfl⟩ ⟨Nat.zero_le _, Nat.zero_le _⟩ hw 0 3 rfl rfl rfl rfl (Nat.le_of_ble_eq_true rfl) dX5_set_36 (fun H locs hw => ?_)
          have hw : zHw x A s.heap (zHW x b t S l0 T l1 K l2 ik (upd fd 0 (fd 0 + 1)) tb tq bo so nn) H locs := hw
          exact zFG.iret hx hb hr hlocks hQ hw rfl dX5_set_39 (zPH.mk (r := zm_set S fd (nI i) 4 v) (v := (-1000000001)) (S' := S) (fd' := zFd fd 0) (by unfold zm_set; rw [if_neg (fun h => c30 h.2.2)]; rfl))
      · refine lv_iload_n hx hb dX5_set_20 rfl (lv_at hl 3 rfl) ?_
        refine lv_iconst (v := 0) hx hb dX5_set_21 (by decide) ?_
        refine zgst2 hx hb hE hw hown hts dX5_set_22 ?_
        refine lv_iload_n hx hb dX5_set_25 rfl (lv_at hl 2 rfl) ?_
        refine zsta2 (v := 1) hx hb hE hw 5 (by decide) (rfl) dX5_set_26 ?_
        refine zcSwi (r := zb (0 ≤ v ∧ v ≤ 1)) hx hb hml hown hts hl.1 hK hE hA lkX5_44 (c_X5_within x (zHW x b t S l0 T l1 K l2 ik fd tb tq bo so nn) v 0 1) ⟨Nat.le_of_ble_eq_true rfl, Nat.le_of_ble_eq_true rfl⟩ ⟨Nat.zero_le _, Nat.zero_le _⟩ hw rfl rfl (Nat.le_of_ble_eq_true rfl) dX5_set_27 (fun H locs hw => ?_)
        have hw : zHw x A s.heap (zHW x b t S l0 T l1 K l2 ik fd tb tq bo so nn) H locs := hw
        refine lv_if_ne (tgt := 40) hx hb dX5_set_30 (by decide) (fun c30 => ?_) (fun c30 => ?_)
        · have c30 := zb_n0.mp c30
          refine lv_aload_n hx hb dX5_set_40 rfl (lv_at hl 0 rfl) ?_
          refine gfX5_10 hx hb hown hts hK hw 0 rfl rfl dX5_set_41 ?_
          refine lv_iload_n hx hb dX5_set_44 rfl (lv_at hl 2 rfl) ?_
          refine zcVma (C1 := (zOW x b t ik fd)) (C2 := (zTW x (t 1) T l1 ++ (zTW x (t 2) K l2 ++ (zPW x b tb tq ++ (zSH x (b 5) (b 9) (bo 0) (so 0) (nn 0) ++ (zSH x (b 6) (b 10) (bo 1) (so 1) (nn 1) ++ (zSH x (b 7) (b 11) (bo 2) (so 2) (nn 2) ++ zSH x (b 8) (b 12) (bo 3) (so 3) (nn 3)))))))) hx hb hml hown hts hl.1 hK hE hA lkX5_112 (c_X3_rowOfHoles_5 x (t 0) S l0) ⟨Nat.le_of_ble_eq_true rfl, Nat.le_of_ble_eq_true rfl⟩ ⟨Nat.zero_le _, Nat.zero_le _⟩ hw 0 2 rfl rfl rfl rfl (Nat.le_of_ble_eq_true rfl) dX5_set_45 (fun H locs hw => ?_)
          have hw : zHw x A s.heap (zHW x b t S l0 T l1 K l2 ik fd tb tq bo so nn) H locs := hw
          refine lv_iload_n hx hb dX5_set_48 rfl (lv_at hl 1 rfl) ?_
          refine lv_iload_n hx hb dX5_set_49 rfl (lv_at hl 3 rfl) ?_
          refine zcSmi (r := S 8 i) (C1 := (zOW x b t ik fd)) (C2 := (zTW x (t 1) T l1 ++ (zTW x (t 2) K l2 ++ (zPW x b tb tq ++ (zSH x (b 5) (b 9) (bo 0) (so 0) (nn 0) ++ (zSH x (b 6) (b 10) (bo 1) (so 1) (nn 1) ++ (zSH x (b 7) (b 11) (bo 2) (so 2) (nn 2) ++ zSH x (b 8) (b 12) (bo 3) (so 3) (nn 3)))))))) hx hb hml hown hts hl.1 hK hE hA lkX5_73 (c_X5_put_8 x (t 0) S l0 i v (by omega)) ⟨Nat.le_of_ble_eq_true rfl, Nat.le_of_ble_eq_true rfl⟩ ⟨Nat.zero_le _, Nat.zero_le _⟩ hw rfl rfl (Nat.le_of_ble_eq_true rfl) dX5_set_50 (fun H locs hw => ?_)
          have hw : zHw x A s.heap (zHW x b t (zU S 8 i v) l0 T l1 K l2 ik fd tb tq bo so nn) H locs := hw
          exact zFG.iret hx hb hr hlocks hQ hw rfl dX5_set_53 (zPH.mk (r := zm_set S fd (nI i) 5 v) (v := S 8 i) (S' := zU S 8 i v) (fd' := fd) (by unfold zm_set; rw [if_pos ⟨c8, by decide, c30⟩, zc_nI (show i < 2147483648 by omega)]; rfl))
        · have c30 := zb_0.mp c30
          refine lv_aload_n hx hb dX5_set_33 rfl (lv_at hl 0 rfl) ?_
          refine lv_ldc (v := (-1000000001)) hx hb hown (hts _ ckX5_51) dX5_set_34 ?_
          refine zcVwi (r := (-1000000001)) hx hb hml hown hts hl.1 hK hE hA lkX5_52 (c_X5_found x b t S l0 T l1 K l2 ik fd tb tq bo so nn (-1000000001) 0 (by decide) (by decide)) ⟨Nat.le_of_ble_eq_true rfl, Nat.le_of_ble_eq_true rfl⟩ ⟨Nat.zero_le _, Nat.zero_le _⟩ hw 0 3 rfl rfl rfl rfl (Nat.le_of_ble_eq_true rfl) dX5_set_36 (fun H locs hw => ?_)
          have hw : zHw x A s.heap (zHW x b t S l0 T l1 K l2 ik (upd fd 0 (fd 0 + 1)) tb tq bo so nn) H locs := hw
          exact zFG.iret hx hb hr hlocks hQ hw rfl dX5_set_39 (zPH.mk (r := zm_set S fd (nI i) 5 v) (v := (-1000000001)) (S' := S) (fd' := zFd fd 0) (by unfold zm_set; rw [if_neg (fun h => c30 h.2.2)]; rfl))

set_option maxHeartbeats 4000000 in
set_option maxRecDepth 100000 in
theorem c_X5_fill (x : zX) (b : Nat → Nat) (t : Nat → Nat → Nat) (S : zT) (l0 : Int32) (T : zT) (l1 : Int32) (K : zT) (l2 ik : Int32) (fd tb tq bo so : Nat → Int32) (nn : Nat → Nat → Int64) (h w : Int32) (hI : zInv S) : zFG x mX5_fill 3 [.ref (b 0), .int h, .int w] (zHW x b t S l0 T l1 K l2 ik fd tb tq bo so nn) (zPH x b t K l2 ik tb tq bo so nn (zm_fill S fd h w)) := by
  refine zFG.start RX5 cX5_fill 4 (some .int) rfl rfl (by decide +kernel) (Nat.le_of_ble_eq_true rfl) ?_
  intro p e s m ar below meth c ls A Q hx hb hr hml hown hts hlocks hK hE hA hQ hl hw
  have hl : lv_has ls 4 [(0, .ref (b 0)), (1, .int h), (2, .int w)] := hl
  have hw : zHw x A s.heap (zHW x b t S l0 T l1 K l2 ik fd tb tq bo so nn) s.heap [] := hw
  refine lv_aload_n hx hb dX5_fill_0 rfl (lv_at hl 0 rfl) ?_
  refine gfX5_10 hx hb hown hts hK hw 0 rfl rfl dX5_fill_1 ?_
  refine lv_iload_n hx hb dX5_fill_4 rfl (lv_at hl 1 rfl) ?_
  refine zcVmi (r := zb (0 ≤ h ∧ h < S 0 0)) (C1 := (zOW x b t ik fd)) (C2 := (zTW x (t 1) T l1 ++ (zTW x (t 2) K l2 ++ (zPW x b tb tq ++ (zSH x (b 5) (b 9) (bo 0) (so 0) (nn 0) ++ (zSH x (b 6) (b 10) (bo 1) (so 1) (nn 1) ++ (zSH x (b 7) (b 11) (bo 2) (so 2) (nn 2) ++ zSH x (b 8) (b 12) (bo 3) (so 3) (nn 3)))))))) hx hb hml hown hts hl.1 hK hE hA lkX5_95 (c_X3_has x (t 0) S l0 h) ⟨Nat.le_of_ble_eq_true rfl, Nat.le_of_ble_eq_true rfl⟩ ⟨Nat.zero_le _, Nat.zero_le _⟩ hw 0 2 rfl rfl rfl rfl (Nat.le_of_ble_eq_true rfl) dX5_fill_5 (fun H locs hw => ?_)
  have hw : zHw x A s.heap (zHW x b t S l0 T l1 K l2 ik fd tb tq bo so nn) H locs := hw
  refine lv_if_eq (tgt := 20) hx hb dX5_fill_8 (by decide) (fun c8 => ?_) (fun c8 => ?_)
  · have c8 := zb_0.mp c8
    refine lv_aload_n hx hb dX5_fill_20 rfl (lv_at hl 0 rfl) ?_
    refine lv_ldc (v := (-1000000001)) hx hb hown (hts _ ckX5_51) dX5_fill_21 ?_
    refine zcVwi (r := (-1000000001)) hx hb hml hown hts hl.1 hK hE hA lkX5_52 (c_X5_found x b t S l0 T l1 K l2 ik fd tb tq bo so nn (-1000000001) 0 (by decide) (by decide)) ⟨Nat.le_of_ble_eq_true rfl, Nat.le_of_ble_eq_true rfl⟩ ⟨Nat.zero_le _, Nat.zero_le _⟩ hw 0 3 rfl rfl rfl rfl (Nat.le_of_ble_eq_true rfl) dX5_fill_23 (fun H locs hw => ?_)
    have hw : zHw x A s.heap (zHW x b t S l0 T l1 K l2 ik (upd fd 0 (fd 0 + 1)) tb tq bo so nn) H locs := hw
    exact zFG.iret hx hb hr hlocks hQ hw rfl dX5_fill_26 (zPH.mk (r := zm_fill S fd h w) (v := (-1000000001)) (S' := S) (fd' := zFd fd 0) (by unfold zm_fill; first | (rw [if_neg (fun h => c17 h.2)]; rfl) | (rw [if_neg (fun h => c8 h.1)]; rfl)))
  · have c8 := zb_n0.mp c8
    refine lv_iload_n hx hb dX5_fill_11 rfl (lv_at hl 2 rfl) ?_
    refine lv_iconst (v := 0) hx hb dX5_fill_12 (by decide) ?_
    refine lv_iconst (v := 1) hx hb dX5_fill_13 (by decide) ?_
    refine zcSwi (r := zb (0 ≤ w ∧ w ≤ 1)) hx hb hml hown hts hl.1 hK hE hA lkX5_44 (c_X5_within x (zHW x b t S l0 T l1 K l2 ik fd tb tq bo so nn) w 0 1) ⟨Nat.le_of_ble_eq_true rfl, Nat.le_of_ble_eq_true rfl⟩ ⟨Nat.zero_le _, Nat.zero_le _⟩ hw rfl rfl (Nat.le_of_ble_eq_true rfl) dX5_fill_14 (fun H locs hw => ?_)
    have hw : zHw x A s.heap (zHW x b t S l0 T l1 K l2 ik fd tb tq bo so nn) H locs := hw
    refine lv_if_ne (tgt := 27) hx hb dX5_fill_17 (by decide) (fun c17 => ?_) (fun c17 => ?_)
    · have c17 := zb_n0.mp c17
      obtain ⟨i, hi8, hiN, rfl⟩ := zH_nat hI c8
      refine lv_aload_n hx hb dX5_fill_27 rfl (lv_at hl 0 rfl) ?_
      refine gfX5_10 hx hb hown hts hK hw 0 rfl rfl dX5_fill_28 ?_
      refine lv_iload_n hx hb dX5_fill_31 rfl (lv_at hl 1 rfl) ?_
      refine lv_iload_n hx hb dX5_fill_32 rfl (lv_at hl 2 rfl) ?_
      refine zcVmi (r := zPs S i w) (C1 := (zOW x b t ik fd)) (C2 := (zTW x (t 1) T l1 ++ (zTW x (t 2) K l2 ++ (zPW x b tb tq ++ (zSH x (b 5) (b 9) (bo 0) (so 0) (nn 0) ++ (zSH x (b 6) (b 10) (bo 1) (so 1) (nn 1) ++ (zSH x (b 7) (b 11) (bo 2) (so 2) (nn 2) ++ zSH x (b 8) (b 12) (bo 3) (so 3) (nn 3)))))))) hx hb hml hown hts hl.1 hK hE hA lkX5_101 (c_X3_price x (t 0) S l0 i w (by omega)) ⟨Nat.le_of_ble_eq_true rfl, Nat.le_of_ble_eq_true rfl⟩ ⟨Nat.zero_le _, Nat.zero_le _⟩ hw 0 2 rfl rfl rfl rfl (Nat.le_of_ble_eq_true rfl) dX5_fill_33 (fun H locs hw => ?_)
      have hw : zHw x A s.heap (zHW x b t S l0 T l1 K l2 ik fd tb tq bo so nn) H locs := hw
      refine lv_istore_n (lv' := [(3, .int (zPs S i w)), (0, .ref (b 0)), (1, .int (nI i)), (2, .int w)]) hx hb dX5_fill_36 rfl hl (by decide) rfl (fun ls hl => ?_)
      refine lv_aload_n hx hb dX5_fill_37 rfl (lv_at hl 1 rfl) ?_
      refine gfX5_10 hx hb hown hts hK hw 0 rfl rfl dX5_fill_38 ?_
      refine gfX5_127 hx hb hown hts hK hw 3 rfl rfl dX5_fill_41 ?_
      refine lv_iload_n hx hb dX5_fill_44 rfl (lv_at hl 2 rfl) ?_
      refine zial hx hb hK hw 9 0 i rfl rfl rfl (by omega) (by decide) dX5_fill_45 ?_
      refine lv_if_ne (tgt := 60) hx hb dX5_fill_46 (by decide) (fun c46 => ?_) (fun c46 => ?_)
      · refine lv_aload_n hx hb dX5_fill_60 rfl (lv_at hl 1 rfl) ?_
        refine lv_ldc (v := (-1000000005)) hx hb hown (hts _ ckX5_134) dX5_fill_61 ?_
        refine zcVwi (r := (-1000000005)) hx hb hml hown hts hl.1 hK hE hA lkX5_52 (c_X5_found x b t S l0 T l1 K l2 ik fd tb tq bo so nn (-1000000005) 4 (by decide) (by decide)) ⟨Nat.le_of_ble_eq_true rfl, Nat.le_of_ble_eq_true rfl⟩ ⟨Nat.zero_le _, Nat.zero_le _⟩ hw 0 3 rfl rfl rfl rfl (Nat.le_of_ble_eq_true rfl) dX5_fill_63 (fun H locs hw => ?_)
        have hw : zHw x A s.heap (zHW x b t S l0 T l1 K l2 ik (upd fd 4 (fd 4 + 1)) tb tq bo so nn) H locs := hw
        exact zFG.iret hx hb hr hlocks hQ hw rfl dX5_fill_66 (zPH.mk (r := zm_fill S fd (nI i) w) (v := (-1000000005)) (S' := S) (fd' := zFd fd 4) (by unfold zm_fill; rw [if_pos ⟨c8, c17⟩, zc_nI (show i < 2147483648 by omega), if_neg (fun h => by first | exact c57 h.2 | exact c46 h.1)]))
      · refine lv_iload_n hx hb dX5_fill_49 rfl (lv_at hl 0 rfl) ?_
        refine lv_aload_n hx hb dX5_fill_50 rfl (lv_at hl 1 rfl) ?_
        refine gfX5_10 hx hb hown hts hK hw 0 rfl rfl dX5_fill_51 ?_
        refine gfX5_130 hx hb hown hts hK hw 3 rfl rfl dX5_fill_54 ?_
        refine lv_icmp_le (tgt := 67) hx hb dX5_fill_57 (by decide) (fun c57 => ?_) (fun c57 => ?_)
        · refine lv_aload_n hx hb dX5_fill_67 rfl (lv_at hl 1 rfl) ?_
          refine gfX5_10 hx hb hown hts hK hw 0 rfl rfl dX5_fill_68 ?_
          refine lv_iload_n hx hb dX5_fill_71 rfl (lv_at hl 2 rfl) ?_
          refine lv_iload_n hx hb dX5_fill_72 rfl (lv_at hl 3 rfl) ?_
          refine zcVmv (C1 := (zOW x b t ik fd)) (C2 := (zTW x (t 1) T l1 ++ (zTW x (t 2) K l2 ++ (zPW x b tb tq ++ (zSH x (b 5) (b 9) (bo 0) (so 0) (nn 0) ++ (zSH x (b 6) (b 10) (bo 1) (so 1) (nn 1) ++ (zSH x (b 7) (b 11) (bo 2) (so 2) (nn 2) ++ zSH x (b 8) (b 12) (bo 3) (so 3) (nn 3)))))))) hx hb hml hown hts hl.1 hK hE hA lkX5_135 (c_X3_fillNow x (t 0) S l0 i w (by omega)) ⟨Nat.le_of_ble_eq_true rfl, Nat.le_of_ble_eq_true rfl⟩ ⟨Nat.zero_le _, Nat.zero_le _⟩ hw 0 2 rfl rfl rfl rfl (Nat.le_of_ble_eq_true rfl) dX5_fill_73 (fun H locs hw => ?_)
          have hw : zHw x A s.heap (zHW x b t (zFi S i w) l0 T l1 K l2 ik fd tb tq bo so nn) H locs := hw
          refine lv_iload_n hx hb dX5_fill_76 rfl (lv_at hl 0 rfl) ?_
          exact zFG.iret hx hb hr hlocks hQ hw rfl dX5_fill_77 (zPH.mk (r := zm_fill S fd (nI i) w) (v := zPs S i w) (S' := zFi S i w) (fd' := fd) (by unfold zm_fill; rw [if_pos ⟨c8, c17⟩, zc_nI (show i < 2147483648 by omega), if_pos ⟨c46, c57⟩]))
        · refine lv_aload_n hx hb dX5_fill_60 rfl (lv_at hl 1 rfl) ?_
          refine lv_ldc (v := (-1000000005)) hx hb hown (hts _ ckX5_134) dX5_fill_61 ?_
          refine zcVwi (r := (-1000000005)) hx hb hml hown hts hl.1 hK hE hA lkX5_52 (c_X5_found x b t S l0 T l1 K l2 ik fd tb tq bo so nn (-1000000005) 4 (by decide) (by decide)) ⟨Nat.le_of_ble_eq_true rfl, Nat.le_of_ble_eq_true rfl⟩ ⟨Nat.zero_le _, Nat.zero_le _⟩ hw 0 3 rfl rfl rfl rfl (Nat.le_of_ble_eq_true rfl) dX5_fill_63 (fun H locs hw => ?_)
          have hw : zHw x A s.heap (zHW x b t S l0 T l1 K l2 ik (upd fd 4 (fd 4 + 1)) tb tq bo so nn) H locs := hw
          exact zFG.iret hx hb hr hlocks hQ hw rfl dX5_fill_66 (zPH.mk (r := zm_fill S fd (nI i) w) (v := (-1000000005)) (S' := S) (fd' := zFd fd 4) (by unfold zm_fill; rw [if_pos ⟨c8, c17⟩, zc_nI (show i < 2147483648 by omega), if_neg (fun h => by first | exact c57 h.2 | exact c46 h.1)]))
    · have c17 := zb_0.mp c17
      refine lv_aload_n hx hb dX5_fill_20 rfl (lv_at hl 0 rfl) ?_
      refine lv_ldc (v := (-1000000001)) hx hb hown (hts _ ckX5_51) dX5_fill_21 ?_
      refine zcVwi (r := (-1000000001)) hx hb hml hown hts hl.1 hK hE hA lkX5_52 (c_X5_found x b t S l0 T l1 K l2 ik fd tb tq bo so nn (-1000000001) 0 (by decide) (by decide)) ⟨Nat.le_of_ble_eq_true rfl, Nat.le_of_ble_eq_true rfl⟩ ⟨Nat.zero_le _, Nat.zero_le _⟩ hw 0 3 rfl rfl rfl rfl (Nat.le_of_ble_eq_true rfl) dX5_fill_23 (fun H locs hw => ?_)
      have hw : zHw x A s.heap (zHW x b t S l0 T l1 K l2 ik (upd fd 0 (fd 0 + 1)) tb tq bo so nn) H locs := hw
      exact zFG.iret hx hb hr hlocks hQ hw rfl dX5_fill_26 (zPH.mk (r := zm_fill S fd h w) (v := (-1000000001)) (S' := S) (fd' := zFd fd 0) (by unfold zm_fill; first | (rw [if_neg (fun h => c17 h.2)]; rfl) | (rw [if_neg (fun h => c8 h.1)]; rfl)))

set_option maxHeartbeats 4000000 in
set_option maxRecDepth 100000 in
theorem c_X5_next (x : zX) (b : Nat → Nat) (t : Nat → Nat → Nat) (S : zT) (l0 : Int32) (T : zT) (l1 : Int32) (K : zT) (l2 ik : Int32) (fd tb tq bo so : Nat → Int32) (nn : Nat → Nat → Int64) (hI : zInv S) : zFG x mX5_next 3 [.ref (b 0)] (zHW x b t S l0 T l1 K l2 ik fd tb tq bo so nn) (zPH x b t K l2 ik tb tq bo so nn (zm_next S fd)) := by
  refine zFG.start RX5 cX5_next 2 (some .int) rfl rfl (by decide +kernel) (Nat.le_of_ble_eq_true rfl) ?_
  intro p e s m ar below meth c ls A Q hx hb hr hml hown hts hlocks hK hE hA hQ hl hw
  have hl : lv_has ls 2 [(0, .ref (b 0))] := hl
  have hw : zHw x A s.heap (zHW x b t S l0 T l1 K l2 ik fd tb tq bo so nn) s.heap [] := hw
  refine lv_aload_n hx hb dX5_next_0 rfl (lv_at hl 0 rfl) ?_
  refine gfX5_10 hx hb hown hts hK hw 0 rfl rfl dX5_next_1 ?_
  refine zcVmi (r := zo (zNb S (zN S))) (C1 := (zOW x b t ik fd)) (C2 := (zTW x (t 1) T l1 ++ (zTW x (t 2) K l2 ++ (zPW x b tb tq ++ (zSH x (b 5) (b 9) (bo 0) (so 0) (nn 0) ++ (zSH x (b 6) (b 10) (bo 1) (so 1) (nn 1) ++ (zSH x (b 7) (b 11) (bo 2) (so 2) (nn 2) ++ zSH x (b 8) (b 12) (bo 3) (so 3) (nn 3)))))))) hx hb hml hown hts hl.1 hK hE hA lkX5_139 (c_X3_firstToFill x (t 0) S l0 hI) ⟨Nat.le_of_ble_eq_true rfl, Nat.le_of_ble_eq_true rfl⟩ ⟨Nat.zero_le _, Nat.zero_le _⟩ hw 0 2 rfl rfl rfl rfl (Nat.le_of_ble_eq_true rfl) dX5_next_4 (fun H locs hw => ?_)
  have hw : zHw x A s.heap (zHW x b t S (zLk S l0 (zN S)) T l1 K l2 ik fd tb tq bo so nn) H locs := hw
  refine lv_istore_n (lv' := [(1, .int (zo (zNb S (zN S)))), (0, .ref (b 0))]) hx hb dX5_next_7 rfl hl (by decide) rfl (fun ls hl => ?_)
  rcases hbb : zNb S (zN S) with _ | d
  · have hl : lv_has ls 2 [(1, .int (-1)), (0, .ref (b 0))] := by
      rw [show (-1) = zo (zNb S (zN S)) from (by rw [hbb]; rfl)]; exact hl
    refine lv_iload_n hx hb dX5_next_8 rfl (lv_at hl 0 rfl) ?_
    refine lv_if_ge (tgt := 21) hx hb dX5_next_9 (by decide) (fun c9 => absurd c9 (by decide)) (fun c9 => ?_)
    refine lv_aload_n hx hb dX5_next_12 rfl (lv_at hl 1 rfl) ?_
    refine lv_ldc (v := (-1000000004)) hx hb hown (hts _ ckX5_142) dX5_next_13 ?_
    refine zcVwi (r := (-1000000004)) hx hb hml hown hts hl.1 hK hE hA lkX5_52 (c_X5_found x b t S (zLk S l0 (zN S)) T l1 K l2 ik fd tb tq bo so nn (-1000000004) 3 (by decide) (by decide)) ⟨Nat.le_of_ble_eq_true rfl, Nat.le_of_ble_eq_true rfl⟩ ⟨Nat.zero_le _, Nat.zero_le _⟩ hw 0 3 rfl rfl rfl rfl (Nat.le_of_ble_eq_true rfl) dX5_next_15 (fun H locs hw => ?_)
    have hw : zHw x A s.heap (zHW x b t S (zLk S l0 (zN S)) T l1 K l2 ik (upd fd 3 (fd 3 + 1)) tb tq bo so nn) H locs := hw
    refine lv_goto (tgt := 22) hx hb dX5_next_18 (by decide) ?_
    exact zFG.iret hx hb hr hlocks hQ hw rfl dX5_next_22 (zPH.mk (r := zm_next S fd) (v := (-1000000004)) (S' := S) (fd' := zFd fd 3) (by unfold zm_next; rw [hbb]))
  · have hbk := (zNb_lt S _ d hbb).1
    have hb8 := zN_le hI
    have hl : lv_has ls 2 [(1, .int (nI d)), (0, .ref (b 0))] := by
      rw [show nI d = zo (zNb S (zN S)) from (by rw [hbb]; rfl)]; exact hl
    refine lv_iload_n hx hb dX5_next_8 rfl (lv_at hl 0 rfl) ?_
    refine lv_if_ge (tgt := 21) hx hb dX5_next_9 (by decide) (fun c9 => ?_) (fun c9 => absurd (nI_pos' (by omega)) c9)
    refine lv_iload_n hx hb dX5_next_21 rfl (lv_at hl 0 rfl) ?_
    exact zFG.iret hx hb hr hlocks hQ hw rfl dX5_next_22 (zPH.mk (r := zm_next S fd) (v := nI d) (S' := S) (fd' := fd) (by unfold zm_next; rw [hbb]))

set_option maxHeartbeats 4000000 in
set_option maxRecDepth 100000 in
theorem c_X5_weeks (x : zX) (b : Nat → Nat) (t : Nat → Nat → Nat) (S : zT) (l0 : Int32) (T : zT) (l1 : Int32) (K : zT) (l2 ik : Int32) (fd tb tq bo so : Nat → Int32) (nn : Nat → Nat → Int64) (n : Int32) (hI : zInv S) : zFG x mX5_weeks 6 [.ref (b 0), .int n] (zHW x b t S l0 T l1 K l2 ik fd tb tq bo so nn) (zPH x b t K l2 ik tb tq bo so nn (zm_weeks S fd n)) := by
  refine zFG.start RX5 cX5_weeks 2 (some .int) rfl rfl (by decide +kernel) (Nat.le_of_ble_eq_true rfl) ?_
  intro p e s m ar below meth c ls A Q hx hb hr hml hown hts hlocks hK hE hA hQ hl hw
  have hl : lv_has ls 2 [(0, .ref (b 0)), (1, .int n)] := hl
  have hw : zHw x A s.heap (zHW x b t S l0 T l1 K l2 ik fd tb tq bo so nn) s.heap [] := hw
  refine lv_iload_n hx hb dX5_weeks_0 rfl (lv_at hl 1 rfl) ?_
  refine lv_iconst (v := 1) hx hb dX5_weeks_1 (by decide) ?_
  refine lv_bipush (v := 60) hx hb dX5_weeks_2 (by decide) ?_
  refine zcSwi (r := zb (1 ≤ n ∧ n ≤ 60)) hx hb hml hown hts hl.1 hK hE hA lkX5_44 (c_X5_within x (zHW x b t S l0 T l1 K l2 ik fd tb tq bo so nn) n 1 60) ⟨Nat.le_of_ble_eq_true rfl, Nat.le_of_ble_eq_true rfl⟩ ⟨Nat.zero_le _, Nat.zero_le _⟩ hw rfl rfl (Nat.le_of_ble_eq_true rfl) dX5_weeks_4 (fun H locs hw => ?_)
  have hw : zHw x A s.heap (zHW x b t S l0 T l1 K l2 ik fd tb tq bo so nn) H locs := hw
  refine lv_if_ne (tgt := 17) hx hb dX5_weeks_7 (by decide) (fun c7 => ?_) (fun c7 => ?_)
  · have c7 := zb_n0.mp c7
    refine lv_aload_n hx hb dX5_weeks_17 rfl (lv_at hl 0 rfl) ?_
    refine gfX5_10 hx hb hown hts hK hw 0 rfl rfl dX5_weeks_18 ?_
    refine gfX5_143 hx hb hown hts hK hw 3 rfl rfl dX5_weeks_21 ?_
    refine lv_iload_n hx hb dX5_weeks_24 rfl (lv_at hl 1 rfl) ?_
    refine lv_iadd hx hb dX5_weeks_25 ?_
    refine lv_sipush (v := 9999) hx hb dX5_weeks_26 (by decide) ?_
    refine lv_icmp_le (tgt := 39) hx hb dX5_weeks_29 (by decide) (fun c29 => ?_) (fun c29 => ?_)
    · obtain ⟨j, hj, rfl⟩ := zBw_nat (hi := 60) c7 (by decide) (by decide)
      refine lv_aload_n hx hb dX5_weeks_39 rfl (lv_at hl 0 rfl) ?_
      refine gfX5_10 hx hb hown hts hK hw 0 rfl rfl dX5_weeks_40 ?_
      refine lv_iload_n hx hb dX5_weeks_43 rfl (lv_at hl 1 rfl) ?_
      refine zcVma (C1 := (zOW x b t ik fd)) (C2 := (zTW x (t 1) T l1 ++ (zTW x (t 2) K l2 ++ (zPW x b tb tq ++ (zSH x (b 5) (b 9) (bo 0) (so 0) (nn 0) ++ (zSH x (b 6) (b 10) (bo 1) (so 1) (nn 1) ++ (zSH x (b 7) (b 11) (bo 2) (so 2) (nn 2) ++ zSH x (b 8) (b 12) (bo 3) (so 3) (nn 3)))))))) hx hb hml hown hts hl.1 hK hE hA lkX5_146 (c_X3_goWeeks x (t 0) S l0 j hI (by omega)) ⟨Nat.le_of_ble_eq_true rfl, Nat.le_of_ble_eq_true rfl⟩ ⟨Nat.zero_le _, Nat.zero_le _⟩ hw 0 2 rfl rfl rfl rfl (Nat.le_of_ble_eq_true rfl) dX5_weeks_44 (fun H locs hw => ?_)
      have hw : zHw x A s.heap (zHW x b t (zGo j S) (zGl j S l0) T l1 K l2 ik fd tb tq bo so nn) H locs := hw
      refine lv_pop hx hb dX5_weeks_47 rfl ?_
      refine lv_aload_n hx hb dX5_weeks_48 rfl (lv_at hl 0 rfl) ?_
      refine gfX5_10 hx hb hown hts hK hw 0 rfl rfl dX5_weeks_49 ?_
      refine zcVmi (r := zBi (zopn (zGo j S)) (zN (zGo j S))) (C1 := (zOW x b t ik fd)) (C2 := (zTW x (t 1) T l1 ++ (zTW x (t 2) K l2 ++ (zPW x b tb tq ++ (zSH x (b 5) (b 9) (bo 0) (so 0) (nn 0) ++ (zSH x (b 6) (b 10) (bo 1) (so 1) (nn 1) ++ (zSH x (b 7) (b 11) (bo 2) (so 2) (nn 2) ++ zSH x (b 8) (b 12) (bo 3) (so 3) (nn 3)))))))) hx hb hml hown hts hl.1 hK hE hA lkX5_80 (c_X3_openHoles x (t 0) (zGo j S) (zGl j S l0) ((zGo_ok j (hI)).1)) ⟨Nat.le_of_ble_eq_true rfl, Nat.le_of_ble_eq_true rfl⟩ ⟨Nat.zero_le _, Nat.zero_le _⟩ hw 0 2 rfl rfl rfl rfl (Nat.le_of_ble_eq_true rfl) dX5_weeks_52 (fun H locs hw => ?_)
      have hw : zHw x A s.heap (zHW x b t (zGo j S) (zGl j S l0) T l1 K l2 ik fd tb tq bo so nn) H locs := hw
      exact zFG.iret hx hb hr hlocks hQ hw rfl dX5_weeks_55 (zPH.mk (r := zm_weeks S fd (nI j)) (v := zBi (zopn (zGo j S)) (zN (zGo j S))) (S' := zGo j S) (fd' := fd) (by unfold zm_weeks; rw [if_pos c7, if_neg (Int32.not_lt.mpr c29), zc_nI (show j < 2147483648 by omega)]))
    · refine lv_aload_n hx hb dX5_weeks_32 rfl (lv_at hl 0 rfl) ?_
      refine lv_ldc (v := (-1000000005)) hx hb hown (hts _ ckX5_134) dX5_weeks_33 ?_
      refine zcVwi (r := (-1000000005)) hx hb hml hown hts hl.1 hK hE hA lkX5_52 (c_X5_found x b t S l0 T l1 K l2 ik fd tb tq bo so nn (-1000000005) 4 (by decide) (by decide)) ⟨Nat.le_of_ble_eq_true rfl, Nat.le_of_ble_eq_true rfl⟩ ⟨Nat.zero_le _, Nat.zero_le _⟩ hw 0 3 rfl rfl rfl rfl (Nat.le_of_ble_eq_true rfl) dX5_weeks_35 (fun H locs hw => ?_)
      have hw : zHw x A s.heap (zHW x b t S l0 T l1 K l2 ik (upd fd 4 (fd 4 + 1)) tb tq bo so nn) H locs := hw
      exact zFG.iret hx hb hr hlocks hQ hw rfl dX5_weeks_38 (zPH.mk (r := zm_weeks S fd n) (v := (-1000000005)) (S' := S) (fd' := zFd fd 4) (by unfold zm_weeks; rw [if_pos c7, if_pos (Int32.not_le.mp c29)]))
  · have c7 := zb_0.mp c7
    refine lv_aload_n hx hb dX5_weeks_10 rfl (lv_at hl 0 rfl) ?_
    refine lv_ldc (v := (-1000000001)) hx hb hown (hts _ ckX5_51) dX5_weeks_11 ?_
    refine zcVwi (r := (-1000000001)) hx hb hml hown hts hl.1 hK hE hA lkX5_52 (c_X5_found x b t S l0 T l1 K l2 ik fd tb tq bo so nn (-1000000001) 0 (by decide) (by decide)) ⟨Nat.le_of_ble_eq_true rfl, Nat.le_of_ble_eq_true rfl⟩ ⟨Nat.zero_le _, Nat.zero_le _⟩ hw 0 3 rfl rfl rfl rfl (Nat.le_of_ble_eq_true rfl) dX5_weeks_13 (fun H locs hw => ?_)
    have hw : zHw x A s.heap (zHW x b t S l0 T l1 K l2 ik (upd fd 0 (fd 0 + 1)) tb tq bo so nn) H locs := hw
    exact zFG.iret hx hb hr hlocks hQ hw rfl dX5_weeks_16 (zPH.mk (r := zm_weeks S fd n) (v := (-1000000001)) (S' := S) (fd' := zFd fd 0) (by unfold zm_weeks; rw [if_neg c7]; rfl))

set_option maxHeartbeats 4000000 in
set_option maxRecDepth 100000 in
theorem c_X5_now (x : zX) (b : Nat → Nat) (t : Nat → Nat → Nat) (S : zT) (l0 : Int32) (T : zT) (l1 : Int32) (K : zT) (l2 ik : Int32) (fd tb tq bo so : Nat → Int32) (nn : Nat → Nat → Int64) (w : Int32) (hI : zInv S) : zFG x mX5_now 1 [.ref (b 0), .int w] (zHW x b t S l0 T l1 K l2 ik fd tb tq bo so nn) (zPH x b t K l2 ik tb tq bo so nn (zm_now S fd w)) := by
  refine zFG.start RX5 cX5_now 2 (some .int) rfl rfl (by decide +kernel) (Nat.le_of_ble_eq_true rfl) ?_
  intro p e s m ar below meth c ls A Q hx hb hr hml hown hts hlocks hK hE hA hQ hl hw
  have hl : lv_has ls 2 [(0, .ref (b 0)), (1, .int w)] := hl
  have hw : zHw x A s.heap (zHW x b t S l0 T l1 K l2 ik fd tb tq bo so nn) s.heap [] := hw
  refine lv_iload_n hx hb dX5_now_0 rfl (lv_at hl 1 rfl) ?_
  rcases Decidable.em (w = 0) with k0 | k0
  · refine W.eq (g2 := F0 m 1 ls (.int 0 :: [])) (by rw [k0]) ?_
    refine lv_tableIn (off := 47) (tgt := 48) hx hb dX5_now_1 (by decide) (by decide) (by decide) (by decide) ?_
    refine lv_aload_n hx hb dX5_now_48 rfl (lv_at hl 0 rfl) ?_
    refine gfX5_10 hx hb hown hts hK hw 0 rfl rfl dX5_now_49 ?_
    refine gfX5_143 hx hb hown hts hK hw 3 rfl rfl dX5_now_52 ?_
    exact zFG.iret hx hb hr hlocks hQ hw rfl dX5_now_55 (zPH.mk (r := zm_now S fd w) (v := S 0 1) (S' := S) (fd' := fd) (by subst k0; rfl))
  rcases Decidable.em (w = 1) with k1 | k1
  · refine W.eq (g2 := F0 m 1 ls (.int 1 :: [])) (by rw [k1]) ?_
    refine lv_tableIn (off := 55) (tgt := 56) hx hb dX5_now_1 (by decide) (by decide) (by decide) (by decide) ?_
    refine lv_aload_n hx hb dX5_now_56 rfl (lv_at hl 0 rfl) ?_
    refine gfX5_10 hx hb hown hts hK hw 0 rfl rfl dX5_now_57 ?_
    refine gfX5_130 hx hb hown hts hK hw 3 rfl rfl dX5_now_60 ?_
    exact zFG.iret hx hb hr hlocks hQ hw rfl dX5_now_63 (zPH.mk (r := zm_now S fd w) (v := S 0 2) (S' := S) (fd' := fd) (by subst k1; rfl))
  rcases Decidable.em (w = 2) with k2 | k2
  · refine W.eq (g2 := F0 m 1 ls (.int 2 :: [])) (by rw [k2]) ?_
    refine lv_tableIn (off := 63) (tgt := 64) hx hb dX5_now_1 (by decide) (by decide) (by decide) (by decide) ?_
    refine lv_aload_n hx hb dX5_now_64 rfl (lv_at hl 0 rfl) ?_
    refine gfX5_10 hx hb hown hts hK hw 0 rfl rfl dX5_now_65 ?_
    refine gfX5_150 hx hb hown hts hK hw 3 rfl rfl dX5_now_68 ?_
    exact zFG.iret hx hb hr hlocks hQ hw rfl dX5_now_71 (zPH.mk (r := zm_now S fd w) (v := S 0 3) (S' := S) (fd' := fd) (by subst k2; rfl))
  rcases Decidable.em (w = 3) with k3 | k3
  · refine W.eq (g2 := F0 m 1 ls (.int 3 :: [])) (by rw [k3]) ?_
    refine lv_tableIn (off := 71) (tgt := 72) hx hb dX5_now_1 (by decide) (by decide) (by decide) (by decide) ?_
    refine lv_aload_n hx hb dX5_now_72 rfl (lv_at hl 0 rfl) ?_
    refine gfX5_10 hx hb hown hts hK hw 0 rfl rfl dX5_now_73 ?_
    refine gfX5_153 hx hb hown hts hK hw 3 rfl rfl dX5_now_76 ?_
    exact zFG.iret hx hb hr hlocks hQ hw rfl dX5_now_79 (zPH.mk (r := zm_now S fd w) (v := S 0 4) (S' := S) (fd' := fd) (by subst k3; rfl))
  rcases Decidable.em (w = 4) with k4 | k4
  · refine W.eq (g2 := F0 m 1 ls (.int 4 :: [])) (by rw [k4]) ?_
    refine lv_tableIn (off := 79) (tgt := 80) hx hb dX5_now_1 (by decide) (by decide) (by decide) (by decide) ?_
    refine lv_aload_n hx hb dX5_now_80 rfl (lv_at hl 0 rfl) ?_
    refine gfX5_10 hx hb hown hts hK hw 0 rfl rfl dX5_now_81 ?_
    refine gfX5_156 hx hb hown hts hK hw 3 rfl rfl dX5_now_84 ?_
    exact zFG.iret hx hb hr hlocks hQ hw rfl dX5_now_87 (zPH.mk (r := zm_now S fd w) (v := S 0 5) (S' := S) (fd' := fd) (by subst k4; rfl))
  rcases Decidable.em (w = 5) with k5 | k5
  · refine W.eq (g2 := F0 m 1 ls (.int 5 :: [])) (by rw [k5]) ?_
    refine lv_tableIn (off := 87) (tgt := 88) hx hb dX5_now_1 (by decide) (by decide) (by decide) (by decide) ?_
    refine lv_aload_n hx hb dX5_now_88 rfl (lv_at hl 0 rfl) ?_
    refine gfX5_10 hx hb hown hts hK hw 0 rfl rfl dX5_now_89 ?_
    refine gfX5_159 hx hb hown hts hK hw 3 rfl rfl dX5_now_92 ?_
    exact zFG.iret hx hb hr hlocks hQ hw rfl dX5_now_95 (zPH.mk (r := zm_now S fd w) (v := S 0 6) (S' := S) (fd' := fd) (by subst k5; rfl))
  rcases Decidable.em (w = 6) with k6 | k6
  · refine W.eq (g2 := F0 m 1 ls (.int 6 :: [])) (by rw [k6]) ?_
    refine lv_tableIn (off := 95) (tgt := 96) hx hb dX5_now_1 (by decide) (by decide) (by decide) (by decide) ?_
    refine lv_aload_n hx hb dX5_now_96 rfl (lv_at hl 0 rfl) ?_
    refine gfX5_10 hx hb hown hts hK hw 0 rfl rfl dX5_now_97 ?_
    refine zcVmi (r := zWo S) (C1 := (zOW x b t ik fd)) (C2 := (zTW x (t 1) T l1 ++ (zTW x (t 2) K l2 ++ (zPW x b tb tq ++ (zSH x (b 5) (b 9) (bo 0) (so 0) (nn 0) ++ (zSH x (b 6) (b 10) (bo 1) (so 1) (nn 1) ++ (zSH x (b 7) (b 11) (bo 2) (so 2) (nn 2) ++ zSH x (b 8) (b 12) (bo 3) (so 3) (nn 3)))))))) hx hb hml hown hts hl.1 hK hE hA lkX5_162 (c_X3_weekOfYear x (t 0) S l0 ) ⟨Nat.le_of_ble_eq_true rfl, Nat.le_of_ble_eq_true rfl⟩ ⟨Nat.zero_le _, Nat.zero_le _⟩ hw 0 2 rfl rfl rfl rfl (Nat.le_of_ble_eq_true rfl) dX5_now_100 (fun H locs hw => ?_)
    have hw : zHw x A s.heap (zHW x b t S l0 T l1 K l2 ik fd tb tq bo so nn) H locs := hw
    refine zcSwi (r := zb (zFr (zWo S))) hx hb hml hown hts hl.1 hK hE hA lkX5_165 (c_X0_isFrost x (zHW x b t S l0 T l1 K l2 ik fd tb tq bo so nn) (zWo S)) ⟨Nat.le_of_ble_eq_true rfl, Nat.le_of_ble_eq_true rfl⟩ ⟨Nat.zero_le _, Nat.zero_le _⟩ hw rfl rfl (Nat.le_of_ble_eq_true rfl) dX5_now_103 (fun H locs hw => ?_)
    have hw : zHw x A s.heap (zHW x b t S l0 T l1 K l2 ik fd tb tq bo so nn) H locs := hw
    refine lv_if_eq (tgt := 113) hx hb dX5_now_106 (by decide) (fun c106 => ?_) (fun c106 => ?_)
    · have c106 := zb_0.mp c106
      refine lv_iconst (v := 0) hx hb dX5_now_113 (by decide) ?_
      exact zFG.iret hx hb hr hlocks hQ hw rfl dX5_now_114 (zPH.mk (r := zm_now S fd w) (v := 0) (S' := S) (fd' := fd) (by subst k6; unfold zm_now; rw [if_neg (by decide), if_pos rfl]; first | rw [zb_t c106] | rw [zb_f c106]))
    · have c106 := zb_n0.mp c106
      refine lv_iconst (v := 1) hx hb dX5_now_109 (by decide) ?_
      refine lv_goto (tgt := 114) hx hb dX5_now_110 (by decide) ?_
      exact zFG.iret hx hb hr hlocks hQ hw rfl dX5_now_114 (zPH.mk (r := zm_now S fd w) (v := 1) (S' := S) (fd' := fd) (by subst k6; unfold zm_now; rw [if_neg (by decide), if_pos rfl]; first | rw [zb_t c106] | rw [zb_f c106]))
  rcases Decidable.em (w = 7) with k7 | k7
  · refine W.eq (g2 := F0 m 1 ls (.int 7 :: [])) (by rw [k7]) ?_
    refine lv_tableIn (off := 114) (tgt := 115) hx hb dX5_now_1 (by decide) (by decide) (by decide) (by decide) ?_
    refine lv_aload_n hx hb dX5_now_115 rfl (lv_at hl 0 rfl) ?_
    refine gfX5_10 hx hb hown hts hK hw 0 rfl rfl dX5_now_116 ?_
    refine zcVmi (r := zSu (zopn S) (S 5) (zN S)) (C1 := (zOW x b t ik fd)) (C2 := (zTW x (t 1) T l1 ++ (zTW x (t 2) K l2 ++ (zPW x b tb tq ++ (zSH x (b 5) (b 9) (bo 0) (so 0) (nn 0) ++ (zSH x (b 6) (b 10) (bo 1) (so 1) (nn 1) ++ (zSH x (b 7) (b 11) (bo 2) (so 2) (nn 2) ++ zSH x (b 8) (b 12) (bo 3) (so 3) (nn 3)))))))) hx hb hml hown hts hl.1 hK hE hA lkX5_168 (c_X3_openSize x (t 0) S l0 hI) ⟨Nat.le_of_ble_eq_true rfl, Nat.le_of_ble_eq_true rfl⟩ ⟨Nat.zero_le _, Nat.zero_le _⟩ hw 0 2 rfl rfl rfl rfl (Nat.le_of_ble_eq_true rfl) dX5_now_119 (fun H locs hw => ?_)
    have hw : zHw x A s.heap (zHW x b t S l0 T l1 K l2 ik fd tb tq bo so nn) H locs := hw
    exact zFG.iret hx hb hr hlocks hQ hw rfl dX5_now_122 (zPH.mk (r := zm_now S fd w) (v := zSu (zopn S) (S 5) (zN S)) (S' := S) (fd' := fd) (by subst k7; unfold zm_now; rw [if_neg (by decide), if_neg (by decide), if_pos rfl]; rfl))
  refine lv_tableOut (tgt := 123) hx hb dX5_now_1 (zout8 k0 k1 k2 k3 k4 k5 k6 k7) (by decide) ?_
  refine lv_aload_n hx hb dX5_now_123 rfl (lv_at hl 0 rfl) ?_
  refine lv_ldc (v := (-1000000001)) hx hb hown (hts _ ckX5_51) dX5_now_124 ?_
  refine zcVwi (r := (-1000000001)) hx hb hml hown hts hl.1 hK hE hA lkX5_52 (c_X5_found x b t S l0 T l1 K l2 ik fd tb tq bo so nn (-1000000001) 0 (by decide) (by decide)) ⟨Nat.le_of_ble_eq_true rfl, Nat.le_of_ble_eq_true rfl⟩ ⟨Nat.zero_le _, Nat.zero_le _⟩ hw 0 3 rfl rfl rfl rfl (Nat.le_of_ble_eq_true rfl) dX5_now_126 (fun H locs hw => ?_)
  have hw : zHw x A s.heap (zHW x b t S l0 T l1 K l2 ik (upd fd 0 (fd 0 + 1)) tb tq bo so nn) H locs := hw
  exact zFG.iret hx hb hr hlocks hQ hw rfl dX5_now_129 (zPH.mk (r := zm_now S fd w) (v := (-1000000001)) (S' := S) (fd' := zFd fd 0) (by unfold zm_now; rw [if_neg (fun h => zno05 k0 k1 k2 k3 k4 k5 h), if_neg k6, if_neg k7]; rfl))

set_option maxHeartbeats 4000000 in
set_option maxRecDepth 100000 in
theorem c_X5_on (x : zX) (b : Nat → Nat) (t : Nat → Nat → Nat) (S : zT) (l0 : Int32) (T : zT) (l1 : Int32) (K : zT) (l2 ik : Int32) (fd tb tq bo so : Nat → Int32) (nn : Nat → Nat → Int64) (h n w : Int32) (hI : zInv S) : zFG x mX5_on 6 [.ref (b 0), .int h, .int n, .int w] (zHW x b t S l0 T l1 K l2 ik fd tb tq bo so nn) (zPH x b t K l2 ik tb tq bo so nn (zm_on S fd h n w)) := by
  refine zFG.start RX5 cX5_on 5 (some .int) rfl rfl (by decide +kernel) (Nat.le_of_ble_eq_true rfl) ?_
  intro p e s m ar below meth c ls A Q hx hb hr hml hown hts hlocks hK hE hA hQ hl hw
  have hl : lv_has ls 5 [(0, .ref (b 0)), (1, .int h), (2, .int n), (3, .int w)] := hl
  have hw : zHw x A s.heap (zHW x b t S l0 T l1 K l2 ik fd tb tq bo so nn) s.heap [] := hw
  refine lv_aload_n hx hb dX5_on_0 rfl (lv_at hl 0 rfl) ?_
  refine gfX5_10 hx hb hown hts hK hw 0 rfl rfl dX5_on_1 ?_
  refine lv_iload_n hx hb dX5_on_4 rfl (lv_at hl 1 rfl) ?_
  refine zcVmi (r := zb (0 ≤ h ∧ h < S 0 0)) (C1 := (zOW x b t ik fd)) (C2 := (zTW x (t 1) T l1 ++ (zTW x (t 2) K l2 ++ (zPW x b tb tq ++ (zSH x (b 5) (b 9) (bo 0) (so 0) (nn 0) ++ (zSH x (b 6) (b 10) (bo 1) (so 1) (nn 1) ++ (zSH x (b 7) (b 11) (bo 2) (so 2) (nn 2) ++ zSH x (b 8) (b 12) (bo 3) (so 3) (nn 3)))))))) hx hb hml hown hts hl.1 hK hE hA lkX5_95 (c_X3_has x (t 0) S l0 h) ⟨Nat.le_of_ble_eq_true rfl, Nat.le_of_ble_eq_true rfl⟩ ⟨Nat.zero_le _, Nat.zero_le _⟩ hw 0 2 rfl rfl rfl rfl (Nat.le_of_ble_eq_true rfl) dX5_on_5 (fun H locs hw => ?_)
  have hw : zHw x A s.heap (zHW x b t S l0 T l1 K l2 ik fd tb tq bo so nn) H locs := hw
  refine lv_if_eq (tgt := 30) hx hb dX5_on_8 (by decide) (fun c8 => ?_) (fun c8 => ?_)
  · have c8 := zb_0.mp c8
    refine lv_aload_n hx hb dX5_on_30 rfl (lv_at hl 0 rfl) ?_
    refine lv_ldc (v := (-1000000001)) hx hb hown (hts _ ckX5_51) dX5_on_31 ?_
    refine zcVwi (r := (-1000000001)) hx hb hml hown hts hl.1 hK hE hA lkX5_52 (c_X5_found x b t S l0 T l1 K l2 ik fd tb tq bo so nn (-1000000001) 0 (by decide) (by decide)) ⟨Nat.le_of_ble_eq_true rfl, Nat.le_of_ble_eq_true rfl⟩ ⟨Nat.zero_le _, Nat.zero_le _⟩ hw 0 3 rfl rfl rfl rfl (Nat.le_of_ble_eq_true rfl) dX5_on_33 (fun H locs hw => ?_)
    have hw : zHw x A s.heap (zHW x b t S l0 T l1 K l2 ik (upd fd 0 (fd 0 + 1)) tb tq bo so nn) H locs := hw
    exact zFG.iret hx hb hr hlocks hQ hw rfl dX5_on_36 (zPH.mk (r := zm_on S fd h n w) (v := (-1000000001)) (S' := S) (fd' := zFd fd 0) (by unfold zm_on; first | (rw [if_neg (fun h => c27 h.2.2)]; rfl) | (rw [if_neg (fun h => c18 h.2.1)]; rfl) | (rw [if_neg (fun h => c8 h.1)]; rfl)))
  · have c8 := zb_n0.mp c8
    refine lv_iload_n hx hb dX5_on_11 rfl (lv_at hl 2 rfl) ?_
    refine lv_iconst (v := 0) hx hb dX5_on_12 (by decide) ?_
    refine lv_bipush (v := 104) hx hb dX5_on_13 (by decide) ?_
    refine zcSwi (r := zb (0 ≤ n ∧ n ≤ 104)) hx hb hml hown hts hl.1 hK hE hA lkX5_44 (c_X5_within x (zHW x b t S l0 T l1 K l2 ik fd tb tq bo so nn) n 0 104) ⟨Nat.le_of_ble_eq_true rfl, Nat.le_of_ble_eq_true rfl⟩ ⟨Nat.zero_le _, Nat.zero_le _⟩ hw rfl rfl (Nat.le_of_ble_eq_true rfl) dX5_on_15 (fun H locs hw => ?_)
    have hw : zHw x A s.heap (zHW x b t S l0 T l1 K l2 ik fd tb tq bo so nn) H locs := hw
    refine lv_if_eq (tgt := 30) hx hb dX5_on_18 (by decide) (fun c18 => ?_) (fun c18 => ?_)
    · have c18 := zb_0.mp c18
      refine lv_aload_n hx hb dX5_on_30 rfl (lv_at hl 0 rfl) ?_
      refine lv_ldc (v := (-1000000001)) hx hb hown (hts _ ckX5_51) dX5_on_31 ?_
      refine zcVwi (r := (-1000000001)) hx hb hml hown hts hl.1 hK hE hA lkX5_52 (c_X5_found x b t S l0 T l1 K l2 ik fd tb tq bo so nn (-1000000001) 0 (by decide) (by decide)) ⟨Nat.le_of_ble_eq_true rfl, Nat.le_of_ble_eq_true rfl⟩ ⟨Nat.zero_le _, Nat.zero_le _⟩ hw 0 3 rfl rfl rfl rfl (Nat.le_of_ble_eq_true rfl) dX5_on_33 (fun H locs hw => ?_)
      have hw : zHw x A s.heap (zHW x b t S l0 T l1 K l2 ik (upd fd 0 (fd 0 + 1)) tb tq bo so nn) H locs := hw
      exact zFG.iret hx hb hr hlocks hQ hw rfl dX5_on_36 (zPH.mk (r := zm_on S fd h n w) (v := (-1000000001)) (S' := S) (fd' := zFd fd 0) (by unfold zm_on; first | (rw [if_neg (fun h => c27 h.2.2)]; rfl) | (rw [if_neg (fun h => c18 h.2.1)]; rfl) | (rw [if_neg (fun h => c8 h.1)]; rfl)))
    · have c18 := zb_n0.mp c18
      refine lv_iload_n hx hb dX5_on_21 rfl (lv_at hl 3 rfl) ?_
      refine lv_iconst (v := 0) hx hb dX5_on_22 (by decide) ?_
      refine lv_iconst (v := 1) hx hb dX5_on_23 (by decide) ?_
      refine zcSwi (r := zb (0 ≤ w ∧ w ≤ 1)) hx hb hml hown hts hl.1 hK hE hA lkX5_44 (c_X5_within x (zHW x b t S l0 T l1 K l2 ik fd tb tq bo so nn) w 0 1) ⟨Nat.le_of_ble_eq_true rfl, Nat.le_of_ble_eq_true rfl⟩ ⟨Nat.zero_le _, Nat.zero_le _⟩ hw rfl rfl (Nat.le_of_ble_eq_true rfl) dX5_on_24 (fun H locs hw => ?_)
      have hw : zHw x A s.heap (zHW x b t S l0 T l1 K l2 ik fd tb tq bo so nn) H locs := hw
      refine lv_if_ne (tgt := 37) hx hb dX5_on_27 (by decide) (fun c27 => ?_) (fun c27 => ?_)
      · have c27 := zb_n0.mp c27
        obtain ⟨i, hi8, hiN, rfl⟩ := zH_nat hI c8
        obtain ⟨j, hj, rfl⟩ := zBw_nat (hi := 104) c18 (by decide) (by decide)
        refine lv_aload_n hx hb dX5_on_37 rfl (lv_at hl 0 rfl) ?_
        refine zcVwa hx hb hml hown hts hl.1 hK hE hA lkX5_171 (c_X5_asItIs x b t S l0 T l1 K l2 ik fd tb tq bo so nn) ⟨Nat.le_of_ble_eq_true rfl, Nat.le_of_ble_eq_true rfl⟩ ⟨Nat.zero_le _, Nat.zero_le _⟩ hw 0 3 rfl rfl rfl rfl (Nat.le_of_ble_eq_true rfl) dX5_on_38 (fun H locs hw => ?_)
        have hw : zHw x A s.heap (zHW x b t S l0 S 1000 K l2 ik fd tb tq bo so nn) H locs := hw
        refine lv_iload_n hx hb dX5_on_41 rfl (lv_at hl 2 rfl) ?_
        refine zcVma (C1 := (zOW x b t ik fd ++ zTW x (t 0) S l0)) (C2 := (zTW x (t 2) K l2 ++ (zPW x b tb tq ++ (zSH x (b 5) (b 9) (bo 0) (so 0) (nn 0) ++ (zSH x (b 6) (b 10) (bo 1) (so 1) (nn 1) ++ (zSH x (b 7) (b 11) (bo 2) (so 2) (nn 2) ++ zSH x (b 8) (b 12) (bo 3) (so 3) (nn 3))))))) hx hb hml hown hts hl.1 hK hE hA lkX5_146 (c_X3_goWeeks x (t 1) S 1000 j hI (by omega)) ⟨Nat.le_of_ble_eq_true rfl, Nat.le_of_ble_eq_true rfl⟩ ⟨Nat.zero_le _, Nat.zero_le _⟩ hw 0 2 rfl rfl rfl rfl (Nat.le_of_ble_eq_true rfl) dX5_on_42 (fun H locs hw => ?_)
        have hw : zHw x A s.heap (zHW x b t S l0 (zGo j S) (zGl j S 1000) K l2 ik fd tb tq bo so nn) H locs := hw
        refine lv_astore (lv' := [(4, .ref ((t 1) 0)), (0, .ref (b 0)), (1, .int (nI i)), (2, .int (nI j)), (3, .int w)]) hx hb dX5_on_45 hl (by decide) rfl (fun ls hl => ?_)
        refine lv_iload_n hx hb dX5_on_47 rfl (lv_at hl 4 rfl) ?_
        refine lv_if_ne (tgt := 61) hx hb dX5_on_48 (by decide) (fun c48 => ?_) (fun c48 => ?_)
        · refine lv_aload hx hb dX5_on_61 (lv_at hl 0 rfl) ?_
          refine gfX5_127 hx hb hown hts hK hw 12 rfl rfl dX5_on_63 ?_
          refine lv_iload_n hx hb dX5_on_66 rfl (lv_at hl 2 rfl) ?_
          refine zial hx hb hK hw 18 0 i rfl rfl rfl (by omega) (by decide) dX5_on_67 ?_
          exact zFG.iret hx hb hr hlocks hQ hw rfl dX5_on_68 (zPH.mk (r := zm_on S fd (nI i) (nI j) w) (v := ((zGo j S) 6) i) (S' := S) (fd' := fd) (by unfold zm_on; rw [if_pos ⟨c8, c18, c27⟩, zc_nI (show j < 2147483648 by omega), zc_nI (show i < 2147483648 by omega)]; first | rw [if_pos c48] | rw [if_neg c48]))
        · refine lv_aload hx hb dX5_on_51 (lv_at hl 0 rfl) ?_
          refine gfX5_124 hx hb hown hts hK hw 12 rfl rfl dX5_on_53 ?_
          refine lv_iload_n hx hb dX5_on_56 rfl (lv_at hl 2 rfl) ?_
          refine zial hx hb hK hw 17 0 i rfl rfl rfl (by omega) (by decide) dX5_on_57 ?_
          refine lv_goto (tgt := 68) hx hb dX5_on_58 (by decide) ?_
          exact zFG.iret hx hb hr hlocks hQ hw rfl dX5_on_68 (zPH.mk (r := zm_on S fd (nI i) (nI j) w) (v := ((zGo j S) 5) i) (S' := S) (fd' := fd) (by unfold zm_on; rw [if_pos ⟨c8, c18, c27⟩, zc_nI (show j < 2147483648 by omega), zc_nI (show i < 2147483648 by omega)]; first | rw [if_pos c48] | rw [if_neg c48]))
      · have c27 := zb_0.mp c27
        refine lv_aload_n hx hb dX5_on_30 rfl (lv_at hl 0 rfl) ?_
        refine lv_ldc (v := (-1000000001)) hx hb hown (hts _ ckX5_51) dX5_on_31 ?_
        refine zcVwi (r := (-1000000001)) hx hb hml hown hts hl.1 hK hE hA lkX5_52 (c_X5_found x b t S l0 T l1 K l2 ik fd tb tq bo so nn (-1000000001) 0 (by decide) (by decide)) ⟨Nat.le_of_ble_eq_true rfl, Nat.le_of_ble_eq_true rfl⟩ ⟨Nat.zero_le _, Nat.zero_le _⟩ hw 0 3 rfl rfl rfl rfl (Nat.le_of_ble_eq_true rfl) dX5_on_33 (fun H locs hw => ?_)
        have hw : zHw x A s.heap (zHW x b t S l0 T l1 K l2 ik (upd fd 0 (fd 0 + 1)) tb tq bo so nn) H locs := hw
        exact zFG.iret hx hb hr hlocks hQ hw rfl dX5_on_36 (zPH.mk (r := zm_on S fd h n w) (v := (-1000000001)) (S' := S) (fd' := zFd fd 0) (by unfold zm_on; first | (rw [if_neg (fun h => c27 h.2.2)]; rfl) | (rw [if_neg (fun h => c18 h.2.1)]; rfl) | (rw [if_neg (fun h => c8 h.1)]; rfl)))

set_option maxHeartbeats 4000000 in
set_option maxRecDepth 100000 in
theorem c_X5_worse (x : zX) (b : Nat → Nat) (t : Nat → Nat → Nat) (S : zT) (l0 : Int32) (T : zT) (l1 : Int32) (K : zT) (l2 ik : Int32) (fd tb tq bo so : Nat → Int32) (nn : Nat → Nat → Int64) (n : Int32) (hI : zInv S) : zFG x mX5_worse 6 [.ref (b 0), .int n] (zHW x b t S l0 T l1 K l2 ik fd tb tq bo so nn) (zPH x b t K l2 ik tb tq bo so nn (zm_worse S fd n)) := by
  refine zFG.start RX5 cX5_worse 2 (some .int) rfl rfl (by decide +kernel) (Nat.le_of_ble_eq_true rfl) ?_
  intro p e s m ar below meth c ls A Q hx hb hr hml hown hts hlocks hK hE hA hQ hl hw
  have hl : lv_has ls 2 [(0, .ref (b 0)), (1, .int n)] := hl
  have hw : zHw x A s.heap (zHW x b t S l0 T l1 K l2 ik fd tb tq bo so nn) s.heap [] := hw
  refine lv_iload_n hx hb dX5_worse_0 rfl (lv_at hl 1 rfl) ?_
  refine lv_iconst (v := 0) hx hb dX5_worse_1 (by decide) ?_
  refine lv_bipush (v := 104) hx hb dX5_worse_2 (by decide) ?_
  refine zcSwi (r := zb (0 ≤ n ∧ n ≤ 104)) hx hb hml hown hts hl.1 hK hE hA lkX5_44 (c_X5_within x (zHW x b t S l0 T l1 K l2 ik fd tb tq bo so nn) n 0 104) ⟨Nat.le_of_ble_eq_true rfl, Nat.le_of_ble_eq_true rfl⟩ ⟨Nat.zero_le _, Nat.zero_le _⟩ hw rfl rfl (Nat.le_of_ble_eq_true rfl) dX5_worse_4 (fun H locs hw => ?_)
  have hw : zHw x A s.heap (zHW x b t S l0 T l1 K l2 ik fd tb tq bo so nn) H locs := hw
  refine lv_if_ne (tgt := 17) hx hb dX5_worse_7 (by decide) (fun c7 => ?_) (fun c7 => ?_)
  · have c7 := zb_n0.mp c7
    obtain ⟨j, hj, rfl⟩ := zBw_nat (hi := 104) c7 (by decide) (by decide)
    refine lv_aload_n hx hb dX5_worse_17 rfl (lv_at hl 0 rfl) ?_
    refine zcVwa hx hb hml hown hts hl.1 hK hE hA lkX5_171 (c_X5_asItIs x b t S l0 T l1 K l2 ik fd tb tq bo so nn) ⟨Nat.le_of_ble_eq_true rfl, Nat.le_of_ble_eq_true rfl⟩ ⟨Nat.zero_le _, Nat.zero_le _⟩ hw 0 3 rfl rfl rfl rfl (Nat.le_of_ble_eq_true rfl) dX5_worse_18 (fun H locs hw => ?_)
    have hw : zHw x A s.heap (zHW x b t S l0 S 1000 K l2 ik fd tb tq bo so nn) H locs := hw
    refine lv_iload_n hx hb dX5_worse_21 rfl (lv_at hl 1 rfl) ?_
    refine zcVma (C1 := (zOW x b t ik fd ++ zTW x (t 0) S l0)) (C2 := (zTW x (t 2) K l2 ++ (zPW x b tb tq ++ (zSH x (b 5) (b 9) (bo 0) (so 0) (nn 0) ++ (zSH x (b 6) (b 10) (bo 1) (so 1) (nn 1) ++ (zSH x (b 7) (b 11) (bo 2) (so 2) (nn 2) ++ zSH x (b 8) (b 12) (bo 3) (so 3) (nn 3))))))) hx hb hml hown hts hl.1 hK hE hA lkX5_146 (c_X3_goWeeks x (t 1) S 1000 j hI (by omega)) ⟨Nat.le_of_ble_eq_true rfl, Nat.le_of_ble_eq_true rfl⟩ ⟨Nat.zero_le _, Nat.zero_le _⟩ hw 0 2 rfl rfl rfl rfl (Nat.le_of_ble_eq_true rfl) dX5_worse_22 (fun H locs hw => ?_)
    have hw : zHw x A s.heap (zHW x b t S l0 (zGo j S) (zGl j S 1000) K l2 ik fd tb tq bo so nn) H locs := hw
    refine zcVmi (r := zSu (zopn (zGo j S)) ((zGo j S) 5) (zN (zGo j S))) (C1 := (zOW x b t ik fd ++ zTW x (t 0) S l0)) (C2 := (zTW x (t 2) K l2 ++ (zPW x b tb tq ++ (zSH x (b 5) (b 9) (bo 0) (so 0) (nn 0) ++ (zSH x (b 6) (b 10) (bo 1) (so 1) (nn 1) ++ (zSH x (b 7) (b 11) (bo 2) (so 2) (nn 2) ++ zSH x (b 8) (b 12) (bo 3) (so 3) (nn 3))))))) hx hb hml hown hts hl.1 hK hE hA lkX5_168 (c_X3_openSize x (t 1) (zGo j S) (zGl j S 1000) ((zGo_ok j (hI)).1)) ⟨Nat.le_of_ble_eq_true rfl, Nat.le_of_ble_eq_true rfl⟩ ⟨Nat.zero_le _, Nat.zero_le _⟩ hw 0 2 rfl rfl rfl rfl (Nat.le_of_ble_eq_true rfl) dX5_worse_25 (fun H locs hw => ?_)
    have hw : zHw x A s.heap (zHW x b t S l0 (zGo j S) (zGl j S 1000) K l2 ik fd tb tq bo so nn) H locs := hw
    exact zFG.iret hx hb hr hlocks hQ hw rfl dX5_worse_28 (zPH.mk (r := zm_worse S fd (nI j)) (v := zSu (zopn (zGo j S)) ((zGo j S) 5) (zN (zGo j S))) (S' := S) (fd' := fd) (by unfold zm_worse; first | (rw [if_pos c7, zc_nI (show j < 2147483648 by omega)]; rfl) | (rw [if_neg c7]; rfl)))
  · have c7 := zb_0.mp c7
    refine lv_aload_n hx hb dX5_worse_10 rfl (lv_at hl 0 rfl) ?_
    refine lv_ldc (v := (-1000000001)) hx hb hown (hts _ ckX5_51) dX5_worse_11 ?_
    refine zcVwi (r := (-1000000001)) hx hb hml hown hts hl.1 hK hE hA lkX5_52 (c_X5_found x b t S l0 T l1 K l2 ik fd tb tq bo so nn (-1000000001) 0 (by decide) (by decide)) ⟨Nat.le_of_ble_eq_true rfl, Nat.le_of_ble_eq_true rfl⟩ ⟨Nat.zero_le _, Nat.zero_le _⟩ hw 0 3 rfl rfl rfl rfl (Nat.le_of_ble_eq_true rfl) dX5_worse_13 (fun H locs hw => ?_)
    have hw : zHw x A s.heap (zHW x b t S l0 T l1 K l2 ik (upd fd 0 (fd 0 + 1)) tb tq bo so nn) H locs := hw
    exact zFG.iret hx hb hr hlocks hQ hw rfl dX5_worse_16 (zPH.mk (r := zm_worse S fd n) (v := (-1000000001)) (S' := S) (fd' := zFd fd 0) (by unfold zm_worse; rw [if_neg c7]; rfl))

set_option maxHeartbeats 4000000 in
set_option maxRecDepth 100000 in
theorem c_X5_cost (x : zX) (b : Nat → Nat) (t : Nat → Nat → Nat) (S : zT) (l0 : Int32) (T : zT) (l1 : Int32) (K : zT) (l2 ik : Int32) (fd tb tq bo so : Nat → Int32) (nn : Nat → Nat → Int64) (n : Int32) (hI : zInv S) : zFG x mX5_cost 6 [.ref (b 0), .int n] (zHW x b t S l0 T l1 K l2 ik fd tb tq bo so nn) (zPH x b t K l2 ik tb tq bo so nn (zm_cost S fd n)) := by
  refine zFG.start RX5 cX5_cost 3 (some .int) rfl rfl (by decide +kernel) (Nat.le_of_ble_eq_true rfl) ?_
  intro p e s m ar below meth c ls A Q hx hb hr hml hown hts hlocks hK hE hA hQ hl hw
  have hl : lv_has ls 3 [(0, .ref (b 0)), (1, .int n)] := hl
  have hw : zHw x A s.heap (zHW x b t S l0 T l1 K l2 ik fd tb tq bo so nn) s.heap [] := hw
  refine lv_iload_n hx hb dX5_cost_0 rfl (lv_at hl 1 rfl) ?_
  refine lv_iconst (v := 0) hx hb dX5_cost_1 (by decide) ?_
  refine lv_bipush (v := 104) hx hb dX5_cost_2 (by decide) ?_
  refine zcSwi (r := zb (0 ≤ n ∧ n ≤ 104)) hx hb hml hown hts hl.1 hK hE hA lkX5_44 (c_X5_within x (zHW x b t S l0 T l1 K l2 ik fd tb tq bo so nn) n 0 104) ⟨Nat.le_of_ble_eq_true rfl, Nat.le_of_ble_eq_true rfl⟩ ⟨Nat.zero_le _, Nat.zero_le _⟩ hw rfl rfl (Nat.le_of_ble_eq_true rfl) dX5_cost_4 (fun H locs hw => ?_)
  have hw : zHw x A s.heap (zHW x b t S l0 T l1 K l2 ik fd tb tq bo so nn) H locs := hw
  refine lv_if_ne (tgt := 17) hx hb dX5_cost_7 (by decide) (fun c7 => ?_) (fun c7 => ?_)
  · have c7 := zb_n0.mp c7
    obtain ⟨j, hj, rfl⟩ := zBw_nat (hi := 104) c7 (by decide) (by decide)
    refine lv_aload_n hx hb dX5_cost_17 rfl (lv_at hl 0 rfl) ?_
    refine zcVwa hx hb hml hown hts hl.1 hK hE hA lkX5_171 (c_X5_asItIs x b t S l0 T l1 K l2 ik fd tb tq bo so nn) ⟨Nat.le_of_ble_eq_true rfl, Nat.le_of_ble_eq_true rfl⟩ ⟨Nat.zero_le _, Nat.zero_le _⟩ hw 0 3 rfl rfl rfl rfl (Nat.le_of_ble_eq_true rfl) dX5_cost_18 (fun H locs hw => ?_)
    have hw : zHw x A s.heap (zHW x b t S l0 S 1000 K l2 ik fd tb tq bo so nn) H locs := hw
    refine lv_iload_n hx hb dX5_cost_21 rfl (lv_at hl 1 rfl) ?_
    refine zcVma (C1 := (zOW x b t ik fd ++ zTW x (t 0) S l0)) (C2 := (zTW x (t 2) K l2 ++ (zPW x b tb tq ++ (zSH x (b 5) (b 9) (bo 0) (so 0) (nn 0) ++ (zSH x (b 6) (b 10) (bo 1) (so 1) (nn 1) ++ (zSH x (b 7) (b 11) (bo 2) (so 2) (nn 2) ++ zSH x (b 8) (b 12) (bo 3) (so 3) (nn 3))))))) hx hb hml hown hts hl.1 hK hE hA lkX5_146 (c_X3_goWeeks x (t 1) S 1000 j hI (by omega)) ⟨Nat.le_of_ble_eq_true rfl, Nat.le_of_ble_eq_true rfl⟩ ⟨Nat.zero_le _, Nat.zero_le _⟩ hw 0 2 rfl rfl rfl rfl (Nat.le_of_ble_eq_true rfl) dX5_cost_22 (fun H locs hw => ?_)
    have hw : zHw x A s.heap (zHW x b t S l0 (zGo j S) (zGl j S 1000) K l2 ik fd tb tq bo so nn) H locs := hw
    refine lv_astore_n (lv' := [(2, .ref ((t 1) 0)), (0, .ref (b 0)), (1, .int (nI j))]) hx hb dX5_cost_25 rfl hl (by decide) rfl (fun ls hl => ?_)
    refine lv_aload_n hx hb dX5_cost_26 rfl (lv_at hl 0 rfl) ?_
    refine gfX5_159 hx hb hown hts hK hw 12 rfl rfl dX5_cost_27 ?_
    refine lv_aload_n hx hb dX5_cost_30 rfl (lv_at hl 1 rfl) ?_
    refine gfX5_10 hx hb hown hts hK hw 0 rfl rfl dX5_cost_31 ?_
    refine gfX5_159 hx hb hown hts hK hw 3 rfl rfl dX5_cost_34 ?_
    refine lv_isub hx hb dX5_cost_37 ?_
    exact zFG.iret hx hb hr hlocks hQ hw rfl dX5_cost_38 (zPH.mk (r := zm_cost S fd (nI j)) (v := ((zGo j S) 0 6) - (S 0 6)) (S' := S) (fd' := fd) (by unfold zm_cost; rw [if_pos c7, zc_nI (show j < 2147483648 by omega)]))
  · have c7 := zb_0.mp c7
    refine lv_aload_n hx hb dX5_cost_10 rfl (lv_at hl 0 rfl) ?_
    refine lv_ldc (v := (-1000000001)) hx hb hown (hts _ ckX5_51) dX5_cost_11 ?_
    refine zcVwi (r := (-1000000001)) hx hb hml hown hts hl.1 hK hE hA lkX5_52 (c_X5_found x b t S l0 T l1 K l2 ik fd tb tq bo so nn (-1000000001) 0 (by decide) (by decide)) ⟨Nat.le_of_ble_eq_true rfl, Nat.le_of_ble_eq_true rfl⟩ ⟨Nat.zero_le _, Nat.zero_le _⟩ hw 0 3 rfl rfl rfl rfl (Nat.le_of_ble_eq_true rfl) dX5_cost_13 (fun H locs hw => ?_)
    have hw : zHw x A s.heap (zHW x b t S l0 T l1 K l2 ik (upd fd 0 (fd 0 + 1)) tb tq bo so nn) H locs := hw
    exact zFG.iret hx hb hr hlocks hQ hw rfl dX5_cost_16 (zPH.mk (r := zm_cost S fd n) (v := (-1000000001)) (S' := S) (fd' := zFd fd 0) (by unfold zm_cost; rw [if_neg c7]; rfl))

set_option maxHeartbeats 4000000 in
set_option maxRecDepth 100000 in
theorem c_X5_weeksUntil_1 (x : zX) (b : Nat → Nat) (t : Nat → Nat → Nat) (S : zT) (l0 : Int32) (T : zT) (l1 : Int32) (K : zT) (l2 ik : Int32) (fd tb tq bo so : Nat → Int32) (nn : Nat → Nat → Int64) (h : Nat) (hI : zInv S) (hh : h < 8) : zFG x mX5_weeksUntil 5 [.ref (b 0), .int (nI h), .int 1] (zHW x b t S l0 T l1 K l2 ik fd tb tq bo so nn) (fun v' u' => v' = some (.int (zo (zFs h true 105 S 0))) ∧ ∃ (T : zT) (l1 : Int32), u' = zHW x b t S l0 T l1 K l2 ik fd tb tq bo so nn) := by
  refine zFG.start RX5 cX5_weeksUntil 5 (some .int) rfl rfl (by decide +kernel) (Nat.le_of_ble_eq_true rfl) ?_
  intro p e s m ar below meth c ls A Q hx hb hr hml hown hts hlocks hK hE hA hQ hl hw
  have hl : lv_has ls 5 [(0, .ref (b 0)), (1, .int (nI h)), (2, .int 1)] := hl
  have hw : zHw x A s.heap (zHW x b t S l0 T l1 K l2 ik fd tb tq bo so nn) s.heap [] := hw
  refine lv_aload_n hx hb dX5_weeksUntil_0 rfl (lv_at hl 0 rfl) ?_
  refine zcVwa hx hb hml hown hts hl.1 hK hE hA lkX5_171 (c_X5_asItIs x b t S l0 T l1 K l2 ik fd tb tq bo so nn) ⟨Nat.le_of_ble_eq_true rfl, Nat.le_of_ble_eq_true rfl⟩ ⟨Nat.zero_le _, Nat.zero_le _⟩ hw 0 3 rfl rfl rfl rfl (Nat.le_of_ble_eq_true rfl) dX5_weeksUntil_1 (fun H locs hw => ?_)
  have hw : zHw x A s.heap (zHW x b t S l0 S 1000 K l2 ik fd tb tq bo so nn) H locs := hw
  refine lv_astore_n (lv' := [(3, .ref ((t 1) 0)), (0, .ref (b 0)), (1, .int (nI h)), (2, .int 1)]) hx hb dX5_weeksUntil_4 rfl hl (by decide) rfl (fun ls hl => ?_)
  refine lv_iconst (v := 0) hx hb dX5_weeksUntil_5 (by decide) ?_
  refine lv_istore (lv' := [(4, .int 0), (3, .ref ((t 1) 0)), (0, .ref (b 0)), (1, .int (nI h)), (2, .int 1)]) hx hb dX5_weeksUntil_6 hl (by decide) rfl (fun ls hl => ?_)
  have loop8 : ∀ (dd : Nat) (n : Nat) (U : zT) (lj : Int32), 105 - n < dd → (hn : n ≤ 105) → (hJ : zInv U) → (e1 : zFs h true (105 - n) U n = zFs h true 105 S 0) → ∀ (H : Heap) (locs : List Loc) (ls : Array Slot), zHw x A s.heap (zHW x b t S l0 U lj K l2 ik fd tb tq bo so nn) H locs → lv_has ls 5 [(0, .ref (b 0)), (1, .int (nI h)), (2, .int 1), (3, .ref ((t 1) 0)), (4, .int (nI n))] → W p x.1 e (zRM 5) s m ar below meth c H locs 0 0 Q (F0 m 8 ls []) := by
    intro dd
    induction dd with
    | zero => intro n U lj hm; exact absurd hm (Nat.not_lt_zero _)
    | succ dd ih8 =>
      intro n U lj hm hn hJ e1 H locs ls hw hl
      refine lv_iload hx hb dX5_weeksUntil_8 (lv_at hl 4 rfl) ?_
      refine lv_bipush (v := 104) hx hb dX5_weeksUntil_10 (by decide) ?_
      refine lv_icmp_gt (tgt := 46) hx hb dX5_weeksUntil_12 (by decide) (fun c12 => ?_) (fun c12 => ?_)
      · refine lv_iconst (v := (-1)) hx hb dX5_weeksUntil_46 (by decide) ?_
        exact zFG.iret hx hb hr hlocks hQ hw rfl dX5_weeksUntil_47 ⟨zsi (by have e5 := z105 hn c12; rw [← e1, e5]; rfl), _, _, rfl⟩
      · have hn4 : n ≤ 104 := (nI_leI (b := 104) (by omega) (by decide)).mp (Int32.not_lt.mp c12)
        have hj : 105 - n = (105 - (n + 1)) + 1 := by omega
        refine lv_aload_n hx hb dX5_weeksUntil_15 rfl (lv_at hl 3 rfl) ?_
        refine gfX5_127 hx hb hown hts hK hw 12 rfl rfl dX5_weeksUntil_16 ?_
        refine lv_iload_n hx hb dX5_weeksUntil_19 rfl (lv_at hl 1 rfl) ?_
        refine zial hx hb hK hw 18 0 h rfl rfl rfl (by omega) (by decide) dX5_weeksUntil_20 ?_
        refine lv_if_eq (tgt := 28) hx hb dX5_weeksUntil_21 (by decide) (fun c21 => ?_) (fun c21 => ?_)
        · have hz : ¬ (decide (¬ U 6 h = 0) = true) := fun e => by rw [decide_eq_false (fun e => e c21)] at e; cases e
          refine lv_iconst (v := 0) hx hb dX5_weeksUntil_28 (by decide) ?_
          refine lv_iload_n hx hb dX5_weeksUntil_29 rfl (lv_at hl 2 rfl) ?_
          refine lv_icmp_ne (tgt := 36) hx hb dX5_weeksUntil_30 (by decide) (fun c30 => ?_) (fun c30 => absurd c30 (by decide))
          refine lv_aload_n hx hb dX5_weeksUntil_36 rfl (lv_at hl 3 rfl) ?_
          refine zcVmv (C1 := (zOW x b t ik fd ++ zTW x (t 0) S l0)) (C2 := (zTW x (t 2) K l2 ++ (zPW x b tb tq ++ (zSH x (b 5) (b 9) (bo 0) (so 0) (nn 0) ++ (zSH x (b 6) (b 10) (bo 1) (so 1) (nn 1) ++ (zSH x (b 7) (b 11) (bo 2) (so 2) (nn 2) ++ zSH x (b 8) (b 12) (bo 3) (so 3) (nn 3))))))) hx hb hml hown hts hl.1 hK hE hA lkX5_253 (c_X3_goWeek x (t 1) U lj (hJ)) ⟨Nat.le_of_ble_eq_true rfl, Nat.le_of_ble_eq_true rfl⟩ ⟨Nat.zero_le _, Nat.zero_le _⟩ hw 0 2 rfl rfl rfl rfl (Nat.le_of_ble_eq_true rfl) dX5_weeksUntil_37 (fun H locs hw => ?_)
          have hw : zHw x A s.heap (zHW x b t S l0 (zWk U) (zMl (zMn U) U lj) K l2 ik fd tb tq bo so nn) H locs := hw
          refine lv_iinc (v := nI (n + 1)) (lv' := [(4, .int (nI (n + 1))), (0, .ref (b 0)), (1, .int (nI h)), (2, .int 1), (3, .ref ((t 1) 0))]) hx hb dX5_weeksUntil_40 hl (k := 4) rfl (nI_1 n) (by decide) rfl (fun ls hl => ?_)
          refine lv_goto (tgt := 8) hx hb dX5_weeksUntil_43 (by decide) ?_
          exact ih8 (n + 1) (zWk U) (zMl (zMn U) U lj) (by omega) (by omega) ((zWk_ok hJ).1) (by rw [← e1, hj, zFs_f hz]) _ _ _ hw (lv_sub hl [1, 2, 3, 4, 0] rfl)
        · have hz : decide (¬ U 6 h = 0) = true := decide_eq_true c21
          refine lv_iconst (v := 1) hx hb dX5_weeksUntil_24 (by decide) ?_
          refine lv_goto (tgt := 29) hx hb dX5_weeksUntil_25 (by decide) ?_
          refine lv_iload_n hx hb dX5_weeksUntil_29 rfl (lv_at hl 2 rfl) ?_
          refine lv_icmp_ne (tgt := 36) hx hb dX5_weeksUntil_30 (by decide) (fun c30 => absurd c30 (by decide)) (fun c30 => ?_)
          refine lv_iload hx hb dX5_weeksUntil_33 (lv_at hl 4 rfl) ?_
          exact zFG.iret hx hb hr hlocks hQ hw rfl dX5_weeksUntil_35 ⟨zsi (by rw [← e1, hj, zFs_t hz]; rfl), _, _, rfl⟩
  exact loop8 (_ + 1) 0 S 1000 (Nat.lt_succ_self _) (Nat.zero_le _) hI rfl _ _ _ hw (lv_sub hl [2, 3, 4, 1, 0] rfl)

set_option maxHeartbeats 4000000 in
set_option maxRecDepth 100000 in
theorem c_X5_weeksUntil_0 (x : zX) (b : Nat → Nat) (t : Nat → Nat → Nat) (S : zT) (l0 : Int32) (T : zT) (l1 : Int32) (K : zT) (l2 ik : Int32) (fd tb tq bo so : Nat → Int32) (nn : Nat → Nat → Int64) (h : Nat) (hI : zInv S) (hh : h < 8) : zFG x mX5_weeksUntil 5 [.ref (b 0), .int (nI h), .int 0] (zHW x b t S l0 T l1 K l2 ik fd tb tq bo so nn) (fun v' u' => v' = some (.int (zo (zFs h false 105 S 0))) ∧ ∃ (T : zT) (l1 : Int32), u' = zHW x b t S l0 T l1 K l2 ik fd tb tq bo so nn) := by
  refine zFG.start RX5 cX5_weeksUntil 5 (some .int) rfl rfl (by decide +kernel) (Nat.le_of_ble_eq_true rfl) ?_
  intro p e s m ar below meth c ls A Q hx hb hr hml hown hts hlocks hK hE hA hQ hl hw
  have hl : lv_has ls 5 [(0, .ref (b 0)), (1, .int (nI h)), (2, .int 0)] := hl
  have hw : zHw x A s.heap (zHW x b t S l0 T l1 K l2 ik fd tb tq bo so nn) s.heap [] := hw
  refine lv_aload_n hx hb dX5_weeksUntil_0 rfl (lv_at hl 0 rfl) ?_
  refine zcVwa hx hb hml hown hts hl.1 hK hE hA lkX5_171 (c_X5_asItIs x b t S l0 T l1 K l2 ik fd tb tq bo so nn) ⟨Nat.le_of_ble_eq_true rfl, Nat.le_of_ble_eq_true rfl⟩ ⟨Nat.zero_le _, Nat.zero_le _⟩ hw 0 3 rfl rfl rfl rfl (Nat.le_of_ble_eq_true rfl) dX5_weeksUntil_1 (fun H locs hw => ?_)
  have hw : zHw x A s.heap (zHW x b t S l0 S 1000 K l2 ik fd tb tq bo so nn) H locs := hw
  refine lv_astore_n (lv' := [(3, .ref ((t 1) 0)), (0, .ref (b 0)), (1, .int (nI h)), (2, .int 0)]) hx hb dX5_weeksUntil_4 rfl hl (by decide) rfl (fun ls hl => ?_)
  refine lv_iconst (v := 0) hx hb dX5_weeksUntil_5 (by decide) ?_
  refine lv_istore (lv' := [(4, .int 0), (3, .ref ((t 1) 0)), (0, .ref (b 0)), (1, .int (nI h)), (2, .int 0)]) hx hb dX5_weeksUntil_6 hl (by decide) rfl (fun ls hl => ?_)
  have loop8 : ∀ (dd : Nat) (n : Nat) (U : zT) (lj : Int32), 105 - n < dd → (hn : n ≤ 105) → (hJ : zInv U) → (e1 : zFs h false (105 - n) U n = zFs h false 105 S 0) → ∀ (H : Heap) (locs : List Loc) (ls : Array Slot), zHw x A s.heap (zHW x b t S l0 U lj K l2 ik fd tb tq bo so nn) H locs → lv_has ls 5 [(0, .ref (b 0)), (1, .int (nI h)), (2, .int 0), (3, .ref ((t 1) 0)), (4, .int (nI n))] → W p x.1 e (zRM 5) s m ar below meth c H locs 0 0 Q (F0 m 8 ls []) := by
    intro dd
    induction dd with
    | zero => intro n U lj hm; exact absurd hm (Nat.not_lt_zero _)
    | succ dd ih8 =>
      intro n U lj hm hn hJ e1 H locs ls hw hl
      refine lv_iload hx hb dX5_weeksUntil_8 (lv_at hl 4 rfl) ?_
      refine lv_bipush (v := 104) hx hb dX5_weeksUntil_10 (by decide) ?_
      refine lv_icmp_gt (tgt := 46) hx hb dX5_weeksUntil_12 (by decide) (fun c12 => ?_) (fun c12 => ?_)
      · refine lv_iconst (v := (-1)) hx hb dX5_weeksUntil_46 (by decide) ?_
        exact zFG.iret hx hb hr hlocks hQ hw rfl dX5_weeksUntil_47 ⟨zsi (by have e5 := z105 hn c12; rw [← e1, e5]; rfl), _, _, rfl⟩
      · have hn4 : n ≤ 104 := (nI_leI (b := 104) (by omega) (by decide)).mp (Int32.not_lt.mp c12)
        have hj : 105 - n = (105 - (n + 1)) + 1 := by omega
        refine lv_aload_n hx hb dX5_weeksUntil_15 rfl (lv_at hl 3 rfl) ?_
        refine gfX5_127 hx hb hown hts hK hw 12 rfl rfl dX5_weeksUntil_16 ?_
        refine lv_iload_n hx hb dX5_weeksUntil_19 rfl (lv_at hl 1 rfl) ?_
        refine zial hx hb hK hw 18 0 h rfl rfl rfl (by omega) (by decide) dX5_weeksUntil_20 ?_
        refine lv_if_eq (tgt := 28) hx hb dX5_weeksUntil_21 (by decide) (fun c21 => ?_) (fun c21 => ?_)
        · have hz : decide (¬ U 6 h = 0) = false := decide_eq_false (fun e => e c21)
          refine lv_iconst (v := 0) hx hb dX5_weeksUntil_28 (by decide) ?_
          refine lv_iload_n hx hb dX5_weeksUntil_29 rfl (lv_at hl 2 rfl) ?_
          refine lv_icmp_ne (tgt := 36) hx hb dX5_weeksUntil_30 (by decide) (fun c30 => absurd c30 (by decide)) (fun c30 => ?_)
          refine lv_iload hx hb dX5_weeksUntil_33 (lv_at hl 4 rfl) ?_
          exact zFG.iret hx hb hr hlocks hQ hw rfl dX5_weeksUntil_35 ⟨zsi (by rw [← e1, hj, zFs_t hz]; rfl), _, _, rfl⟩
        · have hz : ¬ (decide (¬ U 6 h = 0) = false) := fun e => by rw [decide_eq_true c21] at e; cases e
          refine lv_iconst (v := 1) hx hb dX5_weeksUntil_24 (by decide) ?_
          refine lv_goto (tgt := 29) hx hb dX5_weeksUntil_25 (by decide) ?_
          refine lv_iload_n hx hb dX5_weeksUntil_29 rfl (lv_at hl 2 rfl) ?_
          refine lv_icmp_ne (tgt := 36) hx hb dX5_weeksUntil_30 (by decide) (fun c30 => ?_) (fun c30 => absurd c30 (by decide))
          refine lv_aload_n hx hb dX5_weeksUntil_36 rfl (lv_at hl 3 rfl) ?_
          refine zcVmv (C1 := (zOW x b t ik fd ++ zTW x (t 0) S l0)) (C2 := (zTW x (t 2) K l2 ++ (zPW x b tb tq ++ (zSH x (b 5) (b 9) (bo 0) (so 0) (nn 0) ++ (zSH x (b 6) (b 10) (bo 1) (so 1) (nn 1) ++ (zSH x (b 7) (b 11) (bo 2) (so 2) (nn 2) ++ zSH x (b 8) (b 12) (bo 3) (so 3) (nn 3))))))) hx hb hml hown hts hl.1 hK hE hA lkX5_253 (c_X3_goWeek x (t 1) U lj (hJ)) ⟨Nat.le_of_ble_eq_true rfl, Nat.le_of_ble_eq_true rfl⟩ ⟨Nat.zero_le _, Nat.zero_le _⟩ hw 0 2 rfl rfl rfl rfl (Nat.le_of_ble_eq_true rfl) dX5_weeksUntil_37 (fun H locs hw => ?_)
          have hw : zHw x A s.heap (zHW x b t S l0 (zWk U) (zMl (zMn U) U lj) K l2 ik fd tb tq bo so nn) H locs := hw
          refine lv_iinc (v := nI (n + 1)) (lv' := [(4, .int (nI (n + 1))), (0, .ref (b 0)), (1, .int (nI h)), (2, .int 0), (3, .ref ((t 1) 0))]) hx hb dX5_weeksUntil_40 hl (k := 4) rfl (nI_1 n) (by decide) rfl (fun ls hl => ?_)
          refine lv_goto (tgt := 8) hx hb dX5_weeksUntil_43 (by decide) ?_
          exact ih8 (n + 1) (zWk U) (zMl (zMn U) U lj) (by omega) (by omega) ((zWk_ok hJ).1) (by rw [← e1, hj, zFs_f hz]) _ _ _ hw (lv_sub hl [1, 2, 3, 4, 0] rfl)
  exact loop8 (_ + 1) 0 S 1000 (Nat.lt_succ_self _) (Nat.zero_le _) hI rfl _ _ _ hw (lv_sub hl [2, 3, 4, 1, 0] rfl)

set_option maxHeartbeats 4000000 in
set_option maxRecDepth 100000 in
theorem c_X5_filled (x : zX) (b : Nat → Nat) (t : Nat → Nat → Nat) (S : zT) (l0 : Int32) (T : zT) (l1 : Int32) (K : zT) (l2 ik : Int32) (fd tb tq bo so : Nat → Int32) (nn : Nat → Nat → Int64) (h : Int32) (hI : zInv S) : zFG x mX5_filled 6 [.ref (b 0), .int h] (zHW x b t S l0 T l1 K l2 ik fd tb tq bo so nn) (zPH x b t K l2 ik tb tq bo so nn (zm_first true S fd h)) := by
  refine zFG.start RX5 cX5_filled 3 (some .int) rfl rfl (by decide +kernel) (Nat.le_of_ble_eq_true rfl) ?_
  intro p e s m ar below meth c ls A Q hx hb hr hml hown hts hlocks hK hE hA hQ hl hw
  have hl : lv_has ls 3 [(0, .ref (b 0)), (1, .int h)] := hl
  have hw : zHw x A s.heap (zHW x b t S l0 T l1 K l2 ik fd tb tq bo so nn) s.heap [] := hw
  refine lv_aload_n hx hb dX5_filled_0 rfl (lv_at hl 0 rfl) ?_
  refine gfX5_10 hx hb hown hts hK hw 0 rfl rfl dX5_filled_1 ?_
  refine lv_iload_n hx hb dX5_filled_4 rfl (lv_at hl 1 rfl) ?_
  refine zcVmi (r := zb (0 ≤ h ∧ h < S 0 0)) (C1 := (zOW x b t ik fd)) (C2 := (zTW x (t 1) T l1 ++ (zTW x (t 2) K l2 ++ (zPW x b tb tq ++ (zSH x (b 5) (b 9) (bo 0) (so 0) (nn 0) ++ (zSH x (b 6) (b 10) (bo 1) (so 1) (nn 1) ++ (zSH x (b 7) (b 11) (bo 2) (so 2) (nn 2) ++ zSH x (b 8) (b 12) (bo 3) (so 3) (nn 3)))))))) hx hb hml hown hts hl.1 hK hE hA lkX5_95 (c_X3_has x (t 0) S l0 h) ⟨Nat.le_of_ble_eq_true rfl, Nat.le_of_ble_eq_true rfl⟩ ⟨Nat.zero_le _, Nat.zero_le _⟩ hw 0 2 rfl rfl rfl rfl (Nat.le_of_ble_eq_true rfl) dX5_filled_5 (fun H locs hw => ?_)
  have hw : zHw x A s.heap (zHW x b t S l0 T l1 K l2 ik fd tb tq bo so nn) H locs := hw
  refine lv_if_ne (tgt := 18) hx hb dX5_filled_8 (by decide) (fun c8 => ?_) (fun c8 => ?_)
  · have c8 := zb_n0.mp c8
    obtain ⟨i, hi8, hiN, rfl⟩ := zH_nat hI c8
    refine lv_aload_n hx hb dX5_filled_18 rfl (lv_at hl 0 rfl) ?_
    refine lv_iload_n hx hb dX5_filled_19 rfl (lv_at hl 1 rfl) ?_
    refine lv_iconst (v := 1) hx hb dX5_filled_20 (by decide) ?_
    refine zcVw hx hb hml hown hts hl.1 hK hE hA lkX5_175 (c_X5_weeksUntil_1 x b t S l0 T l1 K l2 ik fd tb tq bo so nn i hI hi8) ⟨Nat.le_of_ble_eq_true rfl, Nat.le_of_ble_eq_true rfl⟩ ⟨Nat.zero_le _, Nat.zero_le _⟩ hw 0 3 rfl rfl rfl rfl (Nat.le_of_ble_eq_true rfl) dX5_filled_21 (fun vv uu H locs hp hw => ?_)
    obtain ⟨rfl, T2, lj, rfl⟩ := hp
    refine W.eq (g2 := F0 m 24 ls [.int (zo (zFs i true 105 S 0))]) rfl ?_
    have hw : zHw x A s.heap (zHW x b t S l0 T2 lj K l2 ik fd tb tq bo so nn) H locs := hw
    refine lv_istore_n (lv' := [(2, .int (zo (zFs i true 105 S 0))), (0, .ref (b 0)), (1, .int (nI i))]) hx hb dX5_filled_24 rfl hl (by decide) rfl (fun ls hl => ?_)
    rcases hbb : zFs i true 105 S 0 with _ | d
    · have hl : lv_has ls 3 [(2, .int (-1)), (0, .ref (b 0)), (1, .int (nI i))] := by
        rw [show (-1) = zo (zFs i true 105 S 0) from (by rw [hbb]; rfl)]; exact hl
      refine lv_iload_n hx hb dX5_filled_25 rfl (lv_at hl 0 rfl) ?_
      refine lv_if_ge (tgt := 38) hx hb dX5_filled_26 (by decide) (fun c26 => absurd c26 (by decide)) (fun c26 => ?_)
      refine lv_aload_n hx hb dX5_filled_29 rfl (lv_at hl 1 rfl) ?_
      refine lv_ldc (v := (-1000000004)) hx hb hown (hts _ ckX5_142) dX5_filled_30 ?_
      refine zcVwi (r := (-1000000004)) hx hb hml hown hts hl.1 hK hE hA lkX5_52 (c_X5_found x b t S l0 T2 lj K l2 ik fd tb tq bo so nn (-1000000004) 3 (by decide) (by decide)) ⟨Nat.le_of_ble_eq_true rfl, Nat.le_of_ble_eq_true rfl⟩ ⟨Nat.zero_le _, Nat.zero_le _⟩ hw 0 3 rfl rfl rfl rfl (Nat.le_of_ble_eq_true rfl) dX5_filled_32 (fun H locs hw => ?_)
      have hw : zHw x A s.heap (zHW x b t S l0 T2 lj K l2 ik (upd fd 3 (fd 3 + 1)) tb tq bo so nn) H locs := hw
      refine lv_goto (tgt := 39) hx hb dX5_filled_35 (by decide) ?_
      exact zFG.iret hx hb hr hlocks hQ hw rfl dX5_filled_39 (zPH.mk (r := zm_first true S fd (nI i)) (v := (-1000000004)) (S' := S) (fd' := zFd fd 3) (by unfold zm_first; rw [if_pos c8, zc_nI (show i < 2147483648 by omega), hbb]))
    · have hdl := zFs_le 105 S 0 d hbb
      have hl : lv_has ls 3 [(2, .int (nI d)), (0, .ref (b 0)), (1, .int (nI i))] := by
        rw [show nI d = zo (zFs i true 105 S 0) from (by rw [hbb]; rfl)]; exact hl
      refine lv_iload_n hx hb dX5_filled_25 rfl (lv_at hl 0 rfl) ?_
      refine lv_if_ge (tgt := 38) hx hb dX5_filled_26 (by decide) (fun c26 => ?_) (fun c26 => absurd (nI_pos' (by omega)) c26)
      refine lv_iload_n hx hb dX5_filled_38 rfl (lv_at hl 0 rfl) ?_
      exact zFG.iret hx hb hr hlocks hQ hw rfl dX5_filled_39 (zPH.mk (r := zm_first true S fd (nI i)) (v := nI d) (S' := S) (fd' := fd) (by unfold zm_first; rw [if_pos c8, zc_nI (show i < 2147483648 by omega), hbb]))
  · have c8 := zb_0.mp c8
    refine lv_aload_n hx hb dX5_filled_11 rfl (lv_at hl 0 rfl) ?_
    refine lv_ldc (v := (-1000000001)) hx hb hown (hts _ ckX5_51) dX5_filled_12 ?_
    refine zcVwi (r := (-1000000001)) hx hb hml hown hts hl.1 hK hE hA lkX5_52 (c_X5_found x b t S l0 T l1 K l2 ik fd tb tq bo so nn (-1000000001) 0 (by decide) (by decide)) ⟨Nat.le_of_ble_eq_true rfl, Nat.le_of_ble_eq_true rfl⟩ ⟨Nat.zero_le _, Nat.zero_le _⟩ hw 0 3 rfl rfl rfl rfl (Nat.le_of_ble_eq_true rfl) dX5_filled_14 (fun H locs hw => ?_)
    have hw : zHw x A s.heap (zHW x b t S l0 T l1 K l2 ik (upd fd 0 (fd 0 + 1)) tb tq bo so nn) H locs := hw
    exact zFG.iret hx hb hr hlocks hQ hw rfl dX5_filled_17 (zPH.mk (r := zm_first true S fd h) (v := (-1000000001)) (S' := S) (fd' := zFd fd 0) (by unfold zm_first; rw [if_neg c8]; rfl))

set_option maxHeartbeats 4000000 in
set_option maxRecDepth 100000 in
theorem c_X5_breaks (x : zX) (b : Nat → Nat) (t : Nat → Nat → Nat) (S : zT) (l0 : Int32) (T : zT) (l1 : Int32) (K : zT) (l2 ik : Int32) (fd tb tq bo so : Nat → Int32) (nn : Nat → Nat → Int64) (h : Int32) (hI : zInv S) : zFG x mX5_breaks 6 [.ref (b 0), .int h] (zHW x b t S l0 T l1 K l2 ik fd tb tq bo so nn) (zPH x b t K l2 ik tb tq bo so nn (zm_first false S fd h)) := by
  refine zFG.start RX5 cX5_breaks 3 (some .int) rfl rfl (by decide +kernel) (Nat.le_of_ble_eq_true rfl) ?_
  intro p e s m ar below meth c ls A Q hx hb hr hml hown hts hlocks hK hE hA hQ hl hw
  have hl : lv_has ls 3 [(0, .ref (b 0)), (1, .int h)] := hl
  have hw : zHw x A s.heap (zHW x b t S l0 T l1 K l2 ik fd tb tq bo so nn) s.heap [] := hw
  refine lv_aload_n hx hb dX5_breaks_0 rfl (lv_at hl 0 rfl) ?_
  refine gfX5_10 hx hb hown hts hK hw 0 rfl rfl dX5_breaks_1 ?_
  refine lv_iload_n hx hb dX5_breaks_4 rfl (lv_at hl 1 rfl) ?_
  refine zcVmi (r := zb (0 ≤ h ∧ h < S 0 0)) (C1 := (zOW x b t ik fd)) (C2 := (zTW x (t 1) T l1 ++ (zTW x (t 2) K l2 ++ (zPW x b tb tq ++ (zSH x (b 5) (b 9) (bo 0) (so 0) (nn 0) ++ (zSH x (b 6) (b 10) (bo 1) (so 1) (nn 1) ++ (zSH x (b 7) (b 11) (bo 2) (so 2) (nn 2) ++ zSH x (b 8) (b 12) (bo 3) (so 3) (nn 3)))))))) hx hb hml hown hts hl.1 hK hE hA lkX5_95 (c_X3_has x (t 0) S l0 h) ⟨Nat.le_of_ble_eq_true rfl, Nat.le_of_ble_eq_true rfl⟩ ⟨Nat.zero_le _, Nat.zero_le _⟩ hw 0 2 rfl rfl rfl rfl (Nat.le_of_ble_eq_true rfl) dX5_breaks_5 (fun H locs hw => ?_)
  have hw : zHw x A s.heap (zHW x b t S l0 T l1 K l2 ik fd tb tq bo so nn) H locs := hw
  refine lv_if_ne (tgt := 18) hx hb dX5_breaks_8 (by decide) (fun c8 => ?_) (fun c8 => ?_)
  · have c8 := zb_n0.mp c8
    obtain ⟨i, hi8, hiN, rfl⟩ := zH_nat hI c8
    refine lv_aload_n hx hb dX5_breaks_18 rfl (lv_at hl 0 rfl) ?_
    refine lv_iload_n hx hb dX5_breaks_19 rfl (lv_at hl 1 rfl) ?_
    refine lv_iconst (v := 0) hx hb dX5_breaks_20 (by decide) ?_
    refine zcVw hx hb hml hown hts hl.1 hK hE hA lkX5_175 (c_X5_weeksUntil_0 x b t S l0 T l1 K l2 ik fd tb tq bo so nn i hI hi8) ⟨Nat.le_of_ble_eq_true rfl, Nat.le_of_ble_eq_true rfl⟩ ⟨Nat.zero_le _, Nat.zero_le _⟩ hw 0 3 rfl rfl rfl rfl (Nat.le_of_ble_eq_true rfl) dX5_breaks_21 (fun vv uu H locs hp hw => ?_)
    obtain ⟨rfl, T2, lj, rfl⟩ := hp
    refine W.eq (g2 := F0 m 24 ls [.int (zo (zFs i false 105 S 0))]) rfl ?_
    have hw : zHw x A s.heap (zHW x b t S l0 T2 lj K l2 ik fd tb tq bo so nn) H locs := hw
    refine lv_istore_n (lv' := [(2, .int (zo (zFs i false 105 S 0))), (0, .ref (b 0)), (1, .int (nI i))]) hx hb dX5_breaks_24 rfl hl (by decide) rfl (fun ls hl => ?_)
    rcases hbb : zFs i false 105 S 0 with _ | d
    · have hl : lv_has ls 3 [(2, .int (-1)), (0, .ref (b 0)), (1, .int (nI i))] := by
        rw [show (-1) = zo (zFs i false 105 S 0) from (by rw [hbb]; rfl)]; exact hl
      refine lv_iload_n hx hb dX5_breaks_25 rfl (lv_at hl 0 rfl) ?_
      refine lv_if_ge (tgt := 38) hx hb dX5_breaks_26 (by decide) (fun c26 => absurd c26 (by decide)) (fun c26 => ?_)
      refine lv_aload_n hx hb dX5_breaks_29 rfl (lv_at hl 1 rfl) ?_
      refine lv_ldc (v := (-1000000004)) hx hb hown (hts _ ckX5_142) dX5_breaks_30 ?_
      refine zcVwi (r := (-1000000004)) hx hb hml hown hts hl.1 hK hE hA lkX5_52 (c_X5_found x b t S l0 T2 lj K l2 ik fd tb tq bo so nn (-1000000004) 3 (by decide) (by decide)) ⟨Nat.le_of_ble_eq_true rfl, Nat.le_of_ble_eq_true rfl⟩ ⟨Nat.zero_le _, Nat.zero_le _⟩ hw 0 3 rfl rfl rfl rfl (Nat.le_of_ble_eq_true rfl) dX5_breaks_32 (fun H locs hw => ?_)
      have hw : zHw x A s.heap (zHW x b t S l0 T2 lj K l2 ik (upd fd 3 (fd 3 + 1)) tb tq bo so nn) H locs := hw
      refine lv_goto (tgt := 39) hx hb dX5_breaks_35 (by decide) ?_
      exact zFG.iret hx hb hr hlocks hQ hw rfl dX5_breaks_39 (zPH.mk (r := zm_first false S fd (nI i)) (v := (-1000000004)) (S' := S) (fd' := zFd fd 3) (by unfold zm_first; rw [if_pos c8, zc_nI (show i < 2147483648 by omega), hbb]))
    · have hdl := zFs_le 105 S 0 d hbb
      have hl : lv_has ls 3 [(2, .int (nI d)), (0, .ref (b 0)), (1, .int (nI i))] := by
        rw [show nI d = zo (zFs i false 105 S 0) from (by rw [hbb]; rfl)]; exact hl
      refine lv_iload_n hx hb dX5_breaks_25 rfl (lv_at hl 0 rfl) ?_
      refine lv_if_ge (tgt := 38) hx hb dX5_breaks_26 (by decide) (fun c26 => ?_) (fun c26 => absurd (nI_pos' (by omega)) c26)
      refine lv_iload_n hx hb dX5_breaks_38 rfl (lv_at hl 0 rfl) ?_
      exact zFG.iret hx hb hr hlocks hQ hw rfl dX5_breaks_39 (zPH.mk (r := zm_first false S fd (nI i)) (v := nI d) (S' := S) (fd' := fd) (by unfold zm_first; rw [if_pos c8, zc_nI (show i < 2147483648 by omega), hbb]))
  · have c8 := zb_0.mp c8
    refine lv_aload_n hx hb dX5_breaks_11 rfl (lv_at hl 0 rfl) ?_
    refine lv_ldc (v := (-1000000001)) hx hb hown (hts _ ckX5_51) dX5_breaks_12 ?_
    refine zcVwi (r := (-1000000001)) hx hb hml hown hts hl.1 hK hE hA lkX5_52 (c_X5_found x b t S l0 T l1 K l2 ik fd tb tq bo so nn (-1000000001) 0 (by decide) (by decide)) ⟨Nat.le_of_ble_eq_true rfl, Nat.le_of_ble_eq_true rfl⟩ ⟨Nat.zero_le _, Nat.zero_le _⟩ hw 0 3 rfl rfl rfl rfl (Nat.le_of_ble_eq_true rfl) dX5_breaks_14 (fun H locs hw => ?_)
    have hw : zHw x A s.heap (zHW x b t S l0 T l1 K l2 ik (upd fd 0 (fd 0 + 1)) tb tq bo so nn) H locs := hw
    exact zFG.iret hx hb hr hlocks hQ hw rfl dX5_breaks_17 (zPH.mk (r := zm_first false S fd h) (v := (-1000000001)) (S' := S) (fd' := zFd fd 0) (by unfold zm_first; rw [if_neg c8]; rfl))
