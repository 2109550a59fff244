set_option maxHeartbeats 4000000 in
set_option maxRecDepth 100000 in
theorem c_X2_add (x : zX) (b : Nat → Nat) (tb tq : Nat → Int32) (v : Int32) (n : Nat) (htl : tq 0 = nI n) (hn : n < 120) : zFF x mX2_add 0 [.ref (b 1), .int v] (zPW x b tb tq) none (zPW x b (upd tb n v) (upd tq 0 (nI (n + 1)))) := by
  refine zFG.start RX2 cX2_add 2 none rfl rfl (by decide +kernel) (Nat.le_of_ble_eq_true rfl) ?_
  intro p e s m ar below meth c ls A Q hx hb hr hml hown hts hlocks hK hE hA hQ hl hw
  have hl : lv_has ls 2 [(0, .ref (b 1)), (1, .int v)] := hl
  have hw : zHw x A s.heap (zPW x b tb tq) s.heap [] := hw
  refine lv_aload_n hx hb dX2_add_0 rfl (lv_at hl 0 rfl) ?_
  refine gfX2_15 hx hb hown hts hK hw 0 rfl rfl dX2_add_1 ?_
  refine lv_bipush (v := 120) hx hb dX2_add_4 (by decide) ?_
  refine lv_icmp_ge (tgt := 29) hx hb dX2_add_6 (by decide) (fun c6 => absurd c6 (by rw [htl]; exact nI_ge (a := n) (b := 120) hn (by decide))) (fun c6 => ?_)
  refine lv_aload_n hx hb dX2_add_9 rfl (lv_at hl 0 rfl) ?_
  refine gfX2_9 hx hb hown hts hK hw 0 rfl rfl dX2_add_10 ?_
  refine lv_aload_n hx hb dX2_add_13 rfl (lv_at hl 0 rfl) ?_
  refine gfX2_15 hx hb hown hts hK hw 0 rfl rfl dX2_add_14 ?_
  refine lv_iload_n hx hb dX2_add_17 rfl (lv_at hl 1 rfl) ?_
  refine zias hx hb hK hw 1 0 n rfl rfl htl hn (by decide) dX2_add_18 (fun H locs hw => ?_)
  have hw : zHw x A s.heap (zPW x b (upd tb n v) tq) H locs := hw
  refine lv_aload_n hx hb dX2_add_19 rfl (lv_at hl 0 rfl) ?_
  refine lv_dup hx hb dX2_add_20 rfl ?_
  refine gfX2_15 hx hb hown hts hK hw 0 rfl rfl dX2_add_21 ?_
  refine lv_iconst (v := 1) hx hb dX2_add_24 (by decide) ?_
  refine lv_iadd hx hb dX2_add_25 ?_
  refine pfX2_15 hx hb hown hts hK hw 0 rfl (Nat.le_of_ble_eq_true rfl) dX2_add_26 (fun H locs hw => ?_)
  have hw : zHw x A s.heap (zPW x b (upd tb n v) (upd tq 0 ((tq 0) + 1))) H locs := hw
  have hw : zHw x A s.heap (zPW x b (upd tb n v) (upd tq 0 (nI (n + 1)))) H locs := by
    rw [show nI (n + 1) = tq 0 + 1 from (by rw [htl, nI_1])]; exact hw
  exact zFG.vret hx hb hr hlocks hQ hw rfl dX2_add_29 ⟨rfl, rfl⟩

set_option maxHeartbeats 4000000 in
set_option maxRecDepth 100000 in
theorem c_X2_clear (x : zX) (b : Nat → Nat) (tb tq : Nat → Int32) : zFF x mX2_clear 0 [.ref (b 1)] (zPW x b tb tq) (some (.int (tq 0))) (zPW x b tb (upd tq 0 0)) := by
  refine zFG.start RX2 cX2_clear 2 (some .int) rfl rfl (by decide +kernel) (Nat.le_of_ble_eq_true rfl) ?_
  intro p e s m ar below meth c ls A Q hx hb hr hml hown hts hlocks hK hE hA hQ hl hw
  have hl : lv_has ls 2 [(0, .ref (b 1))] := hl
  have hw : zHw x A s.heap (zPW x b tb tq) s.heap [] := hw
  refine lv_aload_n hx hb dX2_clear_0 rfl (lv_at hl 0 rfl) ?_
  refine gfX2_15 hx hb hown hts hK hw 0 rfl rfl dX2_clear_1 ?_
  refine lv_istore_n (lv' := [(1, .int (tq 0)), (0, .ref (b 1))]) hx hb dX2_clear_4 rfl hl (by decide) rfl (fun ls hl => ?_)
  refine lv_aload_n hx hb dX2_clear_5 rfl (lv_at hl 1 rfl) ?_
  refine lv_iconst (v := 0) hx hb dX2_clear_6 (by decide) ?_
  refine pfX2_15 hx hb hown hts hK hw 0 rfl (Nat.le_of_ble_eq_true rfl) dX2_clear_7 (fun H locs hw => ?_)
  have hw : zHw x A s.heap (zPW x b tb (upd tq 0 0)) H locs := hw
  refine lv_iload_n hx hb dX2_clear_10 rfl (lv_at hl 0 rfl) ?_
  exact zFG.iret hx hb hr hlocks hQ hw rfl dX2_clear_11 ⟨rfl, rfl⟩

set_option maxHeartbeats 4000000 in
set_option maxRecDepth 100000 in
theorem c_X5_wipe (x : zX) (b : Nat → Nat) (t : Nat → Nat → Nat) (S : zT) (l0 : Int32) (T : zT) (l1 : Int32) (K : zT) (l2 ik : Int32) (fd tb tq bo so : Nat → Int32) (nn : Nat → Nat → Int64) : zFF x mX5_wipe 1 [.ref (b 0)] (zHW x b t S l0 T l1 K l2 ik fd tb tq bo so nn) (some (.int (tq 0))) (zHW x b t S l0 T l1 K l2 ik fd tb (upd tq 0 0) bo so nn) := by
  refine zFG.start RX5 cX5_wipe 1 (some .int) rfl rfl (by decide +kernel) (Nat.le_of_ble_eq_true rfl) ?_
  intro p e s m ar below meth c ls A Q hx hb hr hml hown hts hlocks hK hE hA hQ hl hw
  have hl : lv_has ls 1 [(0, .ref (b 0))] := hl
  have hw : zHw x A s.heap (zHW x b t S l0 T l1 K l2 ik fd tb tq bo so nn) s.heap [] := hw
  refine lv_aload_n hx hb dX5_wipe_0 rfl (lv_at hl 0 rfl) ?_
  refine gfX5_29 hx hb hown hts hK hw 0 rfl rfl dX5_wipe_1 ?_
  refine zcVmi (r := tq 0) (C1 := (zOW x b t ik fd ++ (zTW x (t 0) S l0 ++ (zTW x (t 1) T l1 ++ zTW x (t 2) K l2)))) (C2 := (zSH x (b 5) (b 9) (bo 0) (so 0) (nn 0) ++ (zSH x (b 6) (b 10) (bo 1) (so 1) (nn 1) ++ (zSH x (b 7) (b 11) (bo 2) (so 2) (nn 2) ++ zSH x (b 8) (b 12) (bo 3) (so 3) (nn 3))))) hx hb hml hown hts hl.1 hK hE hA lkX5_206 (c_X2_clear x b tb tq ) ⟨Nat.le_of_ble_eq_true rfl, Nat.le_of_ble_eq_true rfl⟩ ⟨Nat.zero_le _, Nat.zero_le _⟩ hw 0 1 rfl rfl rfl rfl (Nat.le_of_ble_eq_true rfl) dX5_wipe_4 (fun H locs hw => ?_)
  have hw : zHw x A s.heap (zHW x b t S l0 T l1 K l2 ik fd tb (upd tq 0 0) bo so nn) H locs := hw
  exact zFG.iret hx hb hr hlocks hQ hw rfl dX5_wipe_7 ⟨rfl, rfl⟩

set_option maxHeartbeats 4000000 in
set_option maxRecDepth 100000 in
theorem c_X6_wipe (x : zX) (a : Nat → Nat) (q : Nat → Int32) (g : zT) (nu : Nat → Nat → Int64) (S : zT) : zFF x mX6_wipe 0 [.ref (a 0)] (zMW x a q g nu (zflat S)) (some (.int (q 1))) (zMW x a (upd q 1 0) g nu (zflat S)) := by
  refine zFG.start RX6 cX6_wipe 2 (some .int) rfl rfl (by decide +kernel) (Nat.le_of_ble_eq_true rfl) ?_
  intro p e s m ar below meth c ls A Q hx hb hr hml hown hts hlocks hK hE hA hQ hl hw
  have hl : lv_has ls 2 [(0, .ref (a 0))] := hl
  have hw : zHw x A s.heap (zMW x a q g nu (zflat S)) s.heap [] := hw
  refine lv_aload_n hx hb dX6_wipe_0 rfl (lv_at hl 0 rfl) ?_
  refine gfX6_183 hx hb hown hts hK hw 0 rfl rfl dX6_wipe_1 ?_
  refine lv_istore_n (lv' := [(1, .int (q 1)), (0, .ref (a 0))]) hx hb dX6_wipe_4 rfl hl (by decide) rfl (fun ls hl => ?_)
  refine lv_aload_n hx hb dX6_wipe_5 rfl (lv_at hl 1 rfl) ?_
  refine lv_iconst (v := 0) hx hb dX6_wipe_6 (by decide) ?_
  refine pfX6_183 hx hb hown hts hK hw 0 rfl (Nat.le_of_ble_eq_true rfl) dX6_wipe_7 (fun H locs hw => ?_)
  have hw : zHw x A s.heap (zMW x a (upd q 1 0) g nu (zflat S)) H locs := hw
  refine lv_iload_n hx hb dX6_wipe_10 rfl (lv_at hl 0 rfl) ?_
  exact zFG.iret hx hb hr hlocks hQ hw rfl dX6_wipe_11 ⟨rfl, rfl⟩

set_option maxHeartbeats 4000000 in
set_option maxRecDepth 100000 in
theorem c_X5_feed (x : zX) (b : Nat → Nat) (t : Nat → Nat → Nat) (S : zT) (l0 : Int32) (T : zT) (l1 : Int32) (K : zT) (l2 ik : Int32) (fd tb tq bo so : Nat → Int32) (nn : Nat → Nat → Int64) (y mm : Int32) (n : Nat) (htl : tq 0 = nI n) (hn : n ≤ 120) : zFG x mX5_feed 1 [.ref (b 0), .int y, .int mm] (zHW x b t S l0 T l1 K l2 ik fd tb tq bo so nn) (fun v' u' => v' = some (.int (zm_feed tb n fd y mm).1) ∧ ∃ tq2 : Nat → Int32, tq2 0 = nI (zm_feed tb n fd y mm).2.2.1 ∧ u' = zHW x b t S l0 T l1 K l2 ik (zm_feed tb n fd y mm).2.2.2 (zm_feed tb n fd y mm).2.1 tq2 bo so nn) := by
  refine zFG.start RX5 cX5_feed 4 (some .int) rfl rfl (by decide +kernel) (Nat.le_of_ble_eq_true rfl) ?_
  intro p e s m ar below meth c ls A Q hx hb hr hml hown hts hlocks hK hE hA hQ hl hw
  have hl : lv_has ls 4 [(0, .ref (b 0)), (1, .int y), (2, .int mm)] := hl
  have hw : zHw x A s.heap (zHW x b t S l0 T l1 K l2 ik fd tb tq bo so nn) s.heap [] := hw
  refine lv_iload_n hx hb dX5_feed_0 rfl (lv_at hl 2 rfl) ?_
  refine lv_iconst (v := 1) hx hb dX5_feed_1 (by decide) ?_
  refine lv_iconst (v := 4) hx hb dX5_feed_2 (by decide) ?_
  refine zcSwi (r := zb (1 ≤ mm ∧ mm ≤ 4)) hx hb hml hown hts hl.1 hK hE hA lkX5_44 (c_X5_within x (zHW x b t S l0 T l1 K l2 ik fd tb tq bo so nn) mm 1 4) ⟨Nat.le_of_ble_eq_true rfl, Nat.le_of_ble_eq_true rfl⟩ ⟨Nat.zero_le _, Nat.zero_le _⟩ hw rfl rfl (Nat.le_of_ble_eq_true rfl) dX5_feed_3 (fun H locs hw => ?_)
  have hw : zHw x A s.heap (zHW x b t S l0 T l1 K l2 ik fd tb tq bo so nn) H locs := hw
  refine lv_if_ne (tgt := 16) hx hb dX5_feed_6 (by decide) (fun c6 => ?_) (fun c6 => ?_)
  · have c6 := zb_n0.mp c6
    refine lv_aload_n hx hb dX5_feed_16 rfl (lv_at hl 0 rfl) ?_
    refine gfX5_29 hx hb hown hts hK hw 0 rfl rfl dX5_feed_17 ?_
    refine gfX5_200 hx hb hown hts hK hw 30 rfl rfl dX5_feed_20 ?_
    refine lv_iload_n hx hb dX5_feed_23 rfl (lv_at hl 2 rfl) ?_
    refine lv_iadd hx hb dX5_feed_24 ?_
    refine lv_bipush (v := 120) hx hb dX5_feed_25 (by decide) ?_
    refine lv_icmp_le (tgt := 37) hx hb dX5_feed_27 (by decide) (fun c27 => ?_) (fun c27 => ?_)
    · have c27h := c27
      obtain ⟨j, hj, rfl⟩ := zBw_nat (hi := 4) c6 (by decide) (by decide)
      have hnj : n + j ≤ 120 := by
        rw [htl, nI_add] at c27
        exact (nI_leI (b := 120) (by omega) (by decide)).mp c27
      refine lv_iload_n hx hb dX5_feed_37 rfl (lv_at hl 2 rfl) ?_
      refine lv_iconst (v := 1) hx hb dX5_feed_38 (by decide) ?_
      refine lv_isub hx hb dX5_feed_39 ?_
      refine lv_istore_n (lv' := [(3, .int ((nI j) - 1)), (0, .ref (b 0)), (1, .int y), (2, .int (nI j))]) hx hb dX5_feed_40 rfl hl (by decide) rfl (fun ls hl => ?_)
      have loop41 : ∀ (dd : Nat) (k : Nat) (i : Nat) (B : Nat → Int32) (tr : Nat → Int32), k < dd → (hik : i + k = n + j) → (hti : tr 0 = nI i) → (e1 : zFe y k B i = zFe y j tb n) → ∀ (H : Heap) (locs : List Loc) (ls : Array Slot), zHw x A s.heap (zHW x b t S l0 T l1 K l2 ik fd B tr bo so nn) H locs → lv_has ls 4 [(0, .ref (b 0)), (1, .int y), (3, .int (nI k - 1))] → W p x.1 e (zRM 1) s m ar below meth c H locs 0 0 Q (F0 m 41 ls []) := by
        intro dd
        induction dd with
        | zero => intro k i B tr hm; exact absurd hm (Nat.not_lt_zero _)
        | succ dd ih41 =>
          intro k i B tr hm hik hti e1 H locs ls hw hl
          rcases k with _ | k
          · have hl : lv_has ls 4 [(0, .ref (b 0)), (1, .int y), (3, .int (-1))] := by
              rw [show (-1) = nI 0 - 1 from rfl]; exact hl
            refine lv_iload_n hx hb dX5_feed_41 rfl (lv_at hl 2 rfl) ?_
            refine lv_if_lt (tgt := 68) hx hb dX5_feed_42 (by decide) (fun c42 => ?_) (fun c42 => absurd (by decide) c42)
            refine lv_aload_n hx hb dX5_feed_68 rfl (lv_at hl 0 rfl) ?_
            refine gfX5_29 hx hb hown hts hK hw 0 rfl rfl dX5_feed_69 ?_
            refine gfX5_200 hx hb hown hts hK hw 30 rfl rfl dX5_feed_72 ?_
            exact zFG.iret hx hb hr hlocks hQ hw rfl dX5_feed_75 (by rw [show zm_feed tb n fd y (nI j) = (nI (n + j), zFe y j tb n, n + j, fd) from (by unfold zm_feed; rw [if_pos c6, if_neg (by rw [← htl]; exact Int32.not_lt.mpr c27h), zc_nI (show j < 2147483648 by omega)])]; exact ⟨zsi (by rw [hti, ← hik]; rfl), tr, (by rw [hti, ← hik]; rfl), (by rw [← e1]; rfl)⟩)
          · have hl : lv_has ls 4 [(0, .ref (b 0)), (1, .int y), (3, .int (nI k))] := by
              rw [show nI k = nI (k + 1) - 1 from (nI_pred k).symm]; exact hl
            refine lv_iload_n hx hb dX5_feed_41 rfl (lv_at hl 2 rfl) ?_
            refine lv_if_lt (tgt := 68) hx hb dX5_feed_42 (by decide) (fun c42 => absurd c42 (nI_pos (by omega))) (fun c42 => ?_)
            refine lv_aload_n hx hb dX5_feed_45 rfl (lv_at hl 0 rfl) ?_
            refine gfX5_29 hx hb hown hts hK hw 0 rfl rfl dX5_feed_46 ?_
            refine lv_iload_n hx hb dX5_feed_49 rfl (lv_at hl 1 rfl) ?_
            refine lv_bipush (v := 8) hx hb dX5_feed_50 (by decide) ?_
            refine lv_iload_n hx hb dX5_feed_52 rfl (lv_at hl 2 rfl) ?_
            refine lv_imul hx hb dX5_feed_53 ?_
            refine lv_ishr hx hb dX5_feed_54 ?_
            refine lv_sipush (v := 255) hx hb dX5_feed_55 (by decide) ?_
            refine lv_iand hx hb dX5_feed_58 ?_
            refine zcVmv (C1 := (zOW x b t ik fd ++ (zTW x (t 0) S l0 ++ (zTW x (t 1) T l1 ++ zTW x (t 2) K l2)))) (C2 := (zSH x (b 5) (b 9) (bo 0) (so 0) (nn 0) ++ (zSH x (b 6) (b 10) (bo 1) (so 1) (nn 1) ++ (zSH x (b 7) (b 11) (bo 2) (so 2) (nn 2) ++ zSH x (b 8) (b 12) (bo 3) (so 3) (nn 3))))) hx hb hml hown hts hl.1 hK hE hA lkX5_203 (c_X2_add x b B tr ((y >>> ((8 * (nI k)) &&& 31)) &&& 255) i hti (by omega)) ⟨Nat.le_of_ble_eq_true rfl, Nat.le_of_ble_eq_true rfl⟩ ⟨Nat.zero_le _, Nat.zero_le _⟩ hw 0 1 rfl rfl rfl rfl (Nat.le_of_ble_eq_true rfl) dX5_feed_59 (fun H locs hw => ?_)
            have hw : zHw x A s.heap (zHW x b t S l0 T l1 K l2 ik fd (upd B i ((y >>> ((8 * (nI k)) &&& 31)) &&& 255)) (upd tr 0 (nI (i + 1))) bo so nn) H locs := hw
            refine lv_iinc (v := nI k - 1) (lv' := [(3, .int (nI k - 1)), (0, .ref (b 0)), (1, .int y)]) hx hb dX5_feed_62 hl (k := 2) rfl (show nI k + (-1) = nI k - 1 from (Int32.sub_eq_add_neg _ _).symm) (by decide) rfl (fun ls hl => ?_)
            refine lv_goto (tgt := 41) hx hb dX5_feed_65 (by decide) ?_
            exact ih41 k (i + 1) (upd B i (y >>> ((8 * nI k) &&& 31) &&& 255)) (upd tr 0 (nI (i + 1))) (by omega) (by omega) rfl e1 _ _ _ hw (lv_sub hl [1, 2, 0] rfl)
      exact loop41 (_ + 1) j n tb tq (Nat.lt_succ_self _) rfl htl rfl _ _ _ hw (lv_sub hl [1, 2, 0] rfl)
    · refine lv_aload_n hx hb dX5_feed_30 rfl (lv_at hl 0 rfl) ?_
      refine lv_ldc (v := (-1000000002)) hx hb hown (hts _ ckX5_91) dX5_feed_31 ?_
      refine zcVwi (r := (-1000000002)) hx hb hml hown hts hl.1 hK hE hA lkX5_52 (c_X5_found x b t S l0 T l1 K l2 ik fd tb tq bo so nn (-1000000002) 1 (by decide) (by decide)) ⟨Nat.le_of_ble_eq_true rfl, Nat.le_of_ble_eq_true rfl⟩ ⟨Nat.zero_le _, Nat.zero_le _⟩ hw 0 3 rfl rfl rfl rfl (Nat.le_of_ble_eq_true rfl) dX5_feed_33 (fun H locs hw => ?_)
      have hw : zHw x A s.heap (zHW x b t S l0 T l1 K l2 ik (upd fd 1 (fd 1 + 1)) tb tq bo so nn) H locs := hw
      exact zFG.iret hx hb hr hlocks hQ hw rfl dX5_feed_36 (by rw [show zm_feed tb n fd y mm = (-1000000002, tb, n, zFd fd 1) from (by unfold zm_feed; rw [if_pos c6, if_pos (by rw [← htl]; exact Int32.not_le.mp c27)])]; exact ⟨rfl, tq, htl, rfl⟩)
  · have c6 := zb_0.mp c6
    refine lv_aload_n hx hb dX5_feed_9 rfl (lv_at hl 0 rfl) ?_
    refine lv_ldc (v := (-1000000001)) hx hb hown (hts _ ckX5_51) dX5_feed_10 ?_
    refine zcVwi (r := (-1000000001)) hx hb hml hown hts hl.1 hK hE hA lkX5_52 (c_X5_found x b t S l0 T l1 K l2 ik fd tb tq bo so nn (-1000000001) 0 (by decide) (by decide)) ⟨Nat.le_of_ble_eq_true rfl, Nat.le_of_ble_eq_true rfl⟩ ⟨Nat.zero_le _, Nat.zero_le _⟩ hw 0 3 rfl rfl rfl rfl (Nat.le_of_ble_eq_true rfl) dX5_feed_12 (fun H locs hw => ?_)
    have hw : zHw x A s.heap (zHW x b t S l0 T l1 K l2 ik (upd fd 0 (fd 0 + 1)) tb tq bo so nn) H locs := hw
    exact zFG.iret hx hb hr hlocks hQ hw rfl dX5_feed_15 (by rw [show zm_feed tb n fd y mm = (-1000000001, tb, n, zFd fd 0) from (by unfold zm_feed; rw [if_neg c6])]; exact ⟨rfl, tq, htl, rfl⟩)

set_option maxHeartbeats 4000000 in
set_option maxRecDepth 100000 in
theorem c_X6_feed (x : zX) (a : Nat → Nat) (q : Nat → Int32) (g : zT) (nu : Nat → Nat → Int64) (S : zT) (y mm : Int32) (n : Nat) (htl : q 1 = nI n) (hn : n ≤ 120) : zFG x mX6_feed 1 [.ref (a 0), .int y, .int mm] (zMW x a q g nu (zflat S)) (fun v' u' => v' = some (.int (zm_feed (g 6) n (g 5) y mm).1) ∧ ∃ q2 : Nat → Int32, q2 1 = nI (zm_feed (g 6) n (g 5) y mm).2.2.1 ∧ (∀ i, i ≠ 1 → q2 i = q i) ∧ u' = zMW x a q2 (zV (zV g 6 (zm_feed (g 6) n (g 5) y mm).2.1) 5 (zm_feed (g 6) n (g 5) y mm).2.2.2) nu (zflat S)) := by
  refine zFG.start RX6 cX6_feed 4 (some .int) rfl rfl (by decide +kernel) (Nat.le_of_ble_eq_true rfl) ?_
  intro p e s m ar below meth c ls A Q hx hb hr hml hown hts hlocks hK hE hA hQ hl hw
  have hl : lv_has ls 4 [(0, .ref (a 0)), (1, .int y), (2, .int mm)] := hl
  have hw : zHw x A s.heap (zMW x a q g nu (zflat S)) s.heap [] := hw
  refine lv_iload_n hx hb dX6_feed_0 rfl (lv_at hl 2 rfl) ?_
  refine lv_i2l hx hb dX6_feed_1 rfl ?_
  refine lv_lconst (v := 1) hx hb dX6_feed_2 (by decide) ?_
  refine lv_ldc2 (v := 4) hx hb hown (hts _ ckX6_181) dX6_feed_3 ?_
  refine zcSwi (r := zb (1 ≤ mm ∧ mm ≤ 4)) hx hb hml hown hts hl.1 hK hE hA lkX6_48 (c_X6_inI x (zMW x a q g nu (zflat S)) mm 1 4) ⟨Nat.le_of_ble_eq_true rfl, Nat.le_of_ble_eq_true rfl⟩ ⟨Nat.zero_le _, Nat.zero_le _⟩ hw rfl rfl (Nat.le_of_ble_eq_true rfl) dX6_feed_6 (fun H locs hw => ?_)
  have hw : zHw x A s.heap (zMW x a q g nu (zflat S)) H locs := hw
  refine lv_if_ne (tgt := 19) hx hb dX6_feed_9 (by decide) (fun c9 => ?_) (fun c9 => ?_)
  · have c9 := zb_n0.mp c9
    refine lv_aload_n hx hb dX6_feed_19 rfl (lv_at hl 0 rfl) ?_
    refine gfX6_183 hx hb hown hts hK hw 0 rfl rfl dX6_feed_20 ?_
    refine lv_iload_n hx hb dX6_feed_23 rfl (lv_at hl 2 rfl) ?_
    refine lv_iadd hx hb dX6_feed_24 ?_
    refine lv_bipush (v := 120) hx hb dX6_feed_25 (by decide) ?_
    refine lv_icmp_le (tgt := 37) hx hb dX6_feed_27 (by decide) (fun c27 => ?_) (fun c27 => ?_)
    · have c27h := c27
      obtain ⟨j, hj, rfl⟩ := zBw_nat (hi := 4) c9 (by decide) (by decide)
      have hnj : n + j ≤ 120 := by
        rw [htl, nI_add] at c27
        exact (nI_leI (b := 120) (by omega) (by decide)).mp c27
      refine lv_iload_n hx hb dX6_feed_37 rfl (lv_at hl 2 rfl) ?_
      refine lv_iconst (v := 1) hx hb dX6_feed_38 (by decide) ?_
      refine lv_isub hx hb dX6_feed_39 ?_
      refine lv_istore_n (lv' := [(3, .int ((nI j) - 1)), (0, .ref (a 0)), (1, .int y), (2, .int (nI j))]) hx hb dX6_feed_40 rfl hl (by decide) rfl (fun ls hl => ?_)
      have loop41 : ∀ (dd : Nat) (k : Nat) (i : Nat) (B : Nat → Int32) (tr : Nat → Int32), k < dd → (hik : i + k = n + j) → (hti : tr 1 = nI i) → (hq : ∀ c, c ≠ 1 → tr c = q c) → (e1 : zFe y k B i = zFe y j (g 6) n) → ∀ (H : Heap) (locs : List Loc) (ls : Array Slot), zHw x A s.heap (zMW x a tr (zV g 6 B) nu (zflat S)) H locs → lv_has ls 4 [(0, .ref (a 0)), (1, .int y), (3, .int (nI k - 1))] → W p x.1 e (zRM 1) s m ar below meth c H locs 0 0 Q (F0 m 41 ls []) := by
        intro dd
        induction dd with
        | zero => intro k i B tr hm; exact absurd hm (Nat.not_lt_zero _)
        | succ dd ih41 =>
          intro k i B tr hm hik hti hq e1 H locs ls hw hl
          rcases k with _ | k
          · have hl : lv_has ls 4 [(0, .ref (a 0)), (1, .int y), (3, .int (-1))] := by
              rw [show (-1) = nI 0 - 1 from rfl]; exact hl
            refine lv_iload_n hx hb dX6_feed_41 rfl (lv_at hl 2 rfl) ?_
            refine lv_if_lt (tgt := 80) hx hb dX6_feed_42 (by decide) (fun c42 => ?_) (fun c42 => absurd (by decide) c42)
            refine lv_aload_n hx hb dX6_feed_80 rfl (lv_at hl 0 rfl) ?_
            refine gfX6_183 hx hb hown hts hK hw 0 rfl rfl dX6_feed_81 ?_
            exact zFG.iret hx hb hr hlocks hQ hw rfl dX6_feed_84 (by rw [show zm_feed (g 6) n (g 5) y (nI j) = (nI (n + j), zFe y j (g 6) n, n + j, g 5) from (by unfold zm_feed; rw [if_pos c9, if_neg (by rw [← htl]; exact Int32.not_lt.mpr c27h), zc_nI (show j < 2147483648 by omega)])]; exact ⟨zsi (by rw [hti, ← hik]; rfl), tr, (by rw [hti, ← hik]; rfl), hq, (by rw [← e1]; exact congrArg (fun z => zMW x a tr z nu _) (zV_self (zV g 6 B) 5).symm)⟩)
          · have hl : lv_has ls 4 [(0, .ref (a 0)), (1, .int y), (3, .int (nI k))] := by
              rw [show nI k = nI (k + 1) - 1 from (nI_pred k).symm]; exact hl
            refine lv_iload_n hx hb dX6_feed_41 rfl (lv_at hl 2 rfl) ?_
            refine lv_if_lt (tgt := 80) hx hb dX6_feed_42 (by decide) (fun c42 => absurd c42 (nI_pos (by omega))) (fun c42 => ?_)
            refine lv_aload_n hx hb dX6_feed_45 rfl (lv_at hl 0 rfl) ?_
            refine gfX6_25 hx hb hown hts hK hw 0 rfl rfl dX6_feed_46 ?_
            refine lv_aload_n hx hb dX6_feed_49 rfl (lv_at hl 0 rfl) ?_
            refine gfX6_183 hx hb hown hts hK hw 0 rfl rfl dX6_feed_50 ?_
            refine lv_iload_n hx hb dX6_feed_53 rfl (lv_at hl 1 rfl) ?_
            refine lv_bipush (v := 8) hx hb dX6_feed_54 (by decide) ?_
            refine lv_iload_n hx hb dX6_feed_56 rfl (lv_at hl 2 rfl) ?_
            refine lv_imul hx hb dX6_feed_57 ?_
            refine lv_ishr hx hb dX6_feed_58 ?_
            refine lv_sipush (v := 255) hx hb dX6_feed_59 (by decide) ?_
            refine lv_iand hx hb dX6_feed_62 ?_
            refine zias hx hb hK hw 6 0 i rfl rfl hti (by omega) (by decide) dX6_feed_63 (fun H locs hw => ?_)
            have hw : zHw x A s.heap (zMW x a tr (zU (zV g 6 B) 6 i ((y >>> ((8 * (nI k)) &&& 31)) &&& 255)) nu (zflat S)) H locs := hw
            have hw : zHw x A s.heap (zMW x a tr (zV g 6 (upd B i ((y >>> ((8 * (nI k)) &&& 31)) &&& 255))) nu (zflat S)) H locs := hw.re (by rw [zV_U])
            refine lv_aload_n hx hb dX6_feed_64 rfl (lv_at hl 0 rfl) ?_
            refine lv_dup hx hb dX6_feed_65 rfl ?_
            refine gfX6_183 hx hb hown hts hK hw 0 rfl rfl dX6_feed_66 ?_
            refine lv_iconst (v := 1) hx hb dX6_feed_69 (by decide) ?_
            refine lv_iadd hx hb dX6_feed_70 ?_
            refine pfX6_183 hx hb hown hts hK hw 0 rfl (Nat.le_of_ble_eq_true rfl) dX6_feed_71 (fun H locs hw => ?_)
            have hw : zHw x A s.heap (zMW x a (upd tr 1 ((tr 1) + 1)) (zV g 6 (upd B i ((y >>> ((8 * (nI k)) &&& 31)) &&& 255))) nu (zflat S)) H locs := hw
            have hw : zHw x A s.heap (zMW x a (upd tr 1 (nI (i + 1))) (zV g 6 (upd B i ((y >>> ((8 * (nI k)) &&& 31)) &&& 255))) nu (zflat S)) H locs := by
              rw [show nI (i + 1) = tr 1 + 1 from (by rw [hti, nI_1])]; exact hw
            refine lv_iinc (v := nI k - 1) (lv' := [(3, .int (nI k - 1)), (0, .ref (a 0)), (1, .int y)]) hx hb dX6_feed_74 hl (k := 2) rfl (show nI k + (-1) = nI k - 1 from (Int32.sub_eq_add_neg _ _).symm) (by decide) rfl (fun ls hl => ?_)
            refine lv_goto (tgt := 41) hx hb dX6_feed_77 (by decide) ?_
            exact ih41 k (i + 1) (upd B i (y >>> ((8 * nI k) &&& 31) &&& 255)) (upd tr 1 (nI (i + 1))) (by omega) (by omega) rfl (fun c hc => (pk_un hc).trans (hq c hc)) e1 _ _ _ hw (lv_sub hl [1, 2, 0] rfl)
      exact loop41 (_ + 1) j n (g 6) q (Nat.lt_succ_self _) rfl htl (fun _ _ => rfl) rfl _ _ _ (hw.re (by rw [zV_self])) (lv_sub hl [1, 2, 0] rfl)
    · refine lv_aload_n hx hb dX6_feed_30 rfl (lv_at hl 0 rfl) ?_
      refine lv_ldc (v := (-1000000002)) hx hb hown (hts _ ckX6_83) dX6_feed_31 ?_
      refine zcVwi (r := (-1000000002)) hx hb hml hown hts hl.1 hK hE hA lkX6_64 (c_X6_finds x a q g nu (zflat S) (-1000000002) 1 (by decide) (by decide)) ⟨Nat.le_of_ble_eq_true rfl, Nat.le_of_ble_eq_true rfl⟩ ⟨Nat.zero_le _, Nat.zero_le _⟩ hw 0 4 rfl rfl rfl rfl (Nat.le_of_ble_eq_true rfl) dX6_feed_33 (fun H locs hw => ?_)
      have hw : zHw x A s.heap (zMW x a q (zU g 5 1 (g 5 1 + 1)) nu (zflat S)) H locs := hw
      exact zFG.iret hx hb hr hlocks hQ hw rfl dX6_feed_36 (by rw [show zm_feed (g 6) n (g 5) y mm = (-1000000002, g 6, n, zFd (g 5) 1) from (by unfold zm_feed; rw [if_pos c9, if_pos (by rw [← htl]; exact Int32.not_le.mp c27)])]; exact ⟨rfl, q, htl, fun _ _ => rfl, (by rw [zV_self]; rfl)⟩)
  · have c9 := zb_0.mp c9
    refine lv_aload_n hx hb dX6_feed_12 rfl (lv_at hl 0 rfl) ?_
    refine lv_ldc (v := (-1000000001)) hx hb hown (hts _ ckX6_45) dX6_feed_13 ?_
    refine zcVwi (r := (-1000000001)) hx hb hml hown hts hl.1 hK hE hA lkX6_64 (c_X6_finds x a q g nu (zflat S) (-1000000001) 0 (by decide) (by decide)) ⟨Nat.le_of_ble_eq_true rfl, Nat.le_of_ble_eq_true rfl⟩ ⟨Nat.zero_le _, Nat.zero_le _⟩ hw 0 4 rfl rfl rfl rfl (Nat.le_of_ble_eq_true rfl) dX6_feed_15 (fun H locs hw => ?_)
    have hw : zHw x A s.heap (zMW x a q (zU g 5 0 (g 5 0 + 1)) nu (zflat S)) H locs := hw
    exact zFG.iret hx hb hr hlocks hQ hw rfl dX6_feed_18 (by rw [show zm_feed (g 6) n (g 5) y mm = (-1000000001, g 6, n, zFd (g 5) 0) from (by unfold zm_feed; rw [if_neg c9])]; exact ⟨rfl, q, htl, fun _ _ => rfl, (by rw [zV_self]; rfl)⟩)
