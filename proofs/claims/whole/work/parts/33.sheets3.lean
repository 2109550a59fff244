set_option maxHeartbeats 4000000 in
set_option maxRecDepth 100000 in
theorem c_X5_lays (x : zX) (b : Nat → Nat) (t : Nat → Nat → Nat) (S : zT) (l0 : Int32) (T : zT) (l1 : Int32) (K : zT) (l2 ik : Int32) (fd tb tq bo so : Nat → Int32) (nn : Nat → Nat → Int64) (y : Int32) (hS : zSI bo so) : zFG x mX5_lays 1 [.ref (b 0), .int y] (zHW x b t S l0 T l1 K l2 ik fd tb tq bo so nn) (fun v' u' => v' = some (.int (zm_lays bo so nn S fd y).1) ∧ u' = zHW x b t (zm_lays bo so nn S fd y).2.1 l0 T l1 K l2 ik (zm_lays bo so nn S fd y).2.2 tb tq bo so nn) := by
  refine zFG.start RX5 cX5_lays 7 (some .int) rfl rfl (by decide +kernel) (Nat.le_of_ble_eq_true rfl) ?_
  intro p e s m ar below meth c ls A Q hx hb hr hml hown hts hlocks hK hE hA hQ hl hw
  have hl : lv_has ls 7 [(0, .ref (b 0)), (1, .int y)] := hl
  have hw : zHw x A s.heap (zHW x b t S l0 T l1 K l2 ik fd tb tq bo so nn) s.heap [] := hw
  rcases zcase4 y with rfl | rfl | rfl | rfl | hno
  · refine lv_aload_n hx hb dX5_lays_0 rfl (lv_at hl 0 rfl) ?_
    refine lv_iload_n hx hb dX5_lays_1 rfl (lv_at hl 1 rfl) ?_
    refine zcVwa hx hb hml hown hts hl.1 hK hE hA lkX5_219 (c_X5_sheetAt_0 x b t S l0 T l1 K l2 ik fd tb tq bo so nn) ⟨Nat.le_of_ble_eq_true rfl, Nat.le_of_ble_eq_true rfl⟩ ⟨Nat.zero_le _, Nat.zero_le _⟩ hw 0 3 rfl rfl rfl rfl (Nat.le_of_ble_eq_true rfl) dX5_lays_2 (fun H locs hw => ?_)
    have hw : zHw x A s.heap (zHW x b t S l0 T l1 K l2 ik fd tb tq bo so nn) H locs := hw
    refine lv_astore_n (lv' := [(2, .ref (b 5)), (0, .ref (b 0)), (1, .int 0)]) hx hb dX5_lays_5 rfl hl (by decide) rfl (fun ls hl => ?_)
    refine lv_aload_n hx hb dX5_lays_6 rfl (lv_at hl 0 rfl) ?_
    refine lv_ifnonnull (tgt := 17) hx hb dX5_lays_7 (by decide) ?_
    refine lv_aload_n hx hb dX5_lays_17 rfl (lv_at hl 0 rfl) ?_
    refine zcVmi (r := zb (bo 0 = 0)) (C1 := (zOW x b t ik fd ++ (zTW x (t 0) S l0 ++ (zTW x (t 1) T l1 ++ (zTW x (t 2) K l2 ++ zPW x b tb tq))))) (C2 := (zSH x (b 6) (b 10) (bo 1) (so 1) (nn 1) ++ (zSH x (b 7) (b 11) (bo 2) (so 2) (nn 2) ++ zSH x (b 8) (b 12) (bo 3) (so 3) (nn 3)))) hx hb hml hown hts hl.1 hK hE hA lkX5_228 (c_X1_isMissing x (b 5) (b 9) (bo 0) (so 0) (nn 0) ) ⟨Nat.le_of_ble_eq_true rfl, Nat.le_of_ble_eq_true rfl⟩ ⟨Nat.zero_le _, Nat.zero_le _⟩ hw 0 0 rfl rfl rfl rfl (Nat.le_of_ble_eq_true rfl) dX5_lays_18 (fun H locs hw => ?_)
    have hw : zHw x A s.heap (zHW x b t S l0 T l1 K l2 ik fd tb tq bo so nn) H locs := hw
    refine lv_if_eq (tgt := 31) hx hb dX5_lays_21 (by decide) (fun c21 => ?_) (fun c21 => ?_)
    · have c21 := zb_0.mp c21
      obtain ⟨-, n4, hn4, hs4⟩ := hS 0 (by decide)
      refine lv_iconst (v := 0) hx hb dX5_lays_31 (by decide) ?_
      refine lv_istore_n (lv' := [(3, .int 0), (2, .ref (b 5)), (0, .ref (b 0)), (1, .int 0)]) hx hb dX5_lays_32 rfl hl (by decide) rfl (fun ls hl => ?_)
      refine lv_iconst (v := 0) hx hb dX5_lays_33 (by decide) ?_
      refine lv_istore (lv' := [(4, .int 0), (3, .int 0), (2, .ref (b 5)), (0, .ref (b 0)), (1, .int 0)]) hx hb dX5_lays_34 hl (by decide) rfl (fun ls hl => ?_)
      have loop36 : ∀ (dd : Nat) (k : Nat), 6 - k < dd → (hk : k ≤ min n4 6) → ∀ (H : Heap) (locs : List Loc) (ls : Array Slot), zHw x A s.heap (zHW x b t ((zLy (nn 0) S k).1) l0 T l1 K l2 ik fd tb tq bo so nn) H locs → lv_has ls 7 [(0, .ref (b 0)), (2, .ref (b 5)), (3, .int (nI (zLy (nn 0) S k).2)), (4, .int (nI k))] → W p x.1 e (zRM 1) s m ar below meth c H locs 0 0 Q (F0 m 36 ls []) := by
        intro dd
        induction dd with
        | zero => intro k hm; exact absurd hm (Nat.not_lt_zero _)
        | succ dd ih36 =>
          intro k hm hk H locs ls hw hl
          refine lv_iload hx hb dX5_lays_36 (lv_at hl 3 rfl) ?_
          refine lv_aload_n hx hb dX5_lays_38 rfl (lv_at hl 1 rfl) ?_
          refine gfX5_227 hx hb hown hts hK hw 32 rfl rfl dX5_lays_39 ?_
          refine lv_icmp_ge (tgt := 99) hx hb dX5_lays_42 (by decide) (fun c42 => ?_) (fun c42 => ?_)
          · have hke : k = min n4 6 := by
              have h4 := zke hs4 (by omega) (show k ≤ n4 by omega) c42
              omega
            refine lv_iload_n hx hb dX5_lays_99 rfl (lv_at hl 2 rfl) ?_
            exact zFG.iret hx hb hr hlocks hQ hw rfl dX5_lays_100 (by rw [show zm_lays bo so nn S fd 0 = (nI (zLy (nn 0) S k).2, (zLy (nn 0) S k).1, fd) from (by unfold zm_lays; rw [if_pos (by decide), show zc (0 : Int32) = 0 from rfl, if_neg c21, hs4, zml_of hn4, hke])]; exact ⟨rfl, rfl⟩)
          · have hk4 : k < n4 := zkn hs4 (by omega) (by omega) c42
            refine lv_iload hx hb dX5_lays_45 (lv_at hl 3 rfl) ?_
            refine lv_bipush (v := 6) hx hb dX5_lays_47 (by decide) ?_
            refine lv_icmp_ge (tgt := 99) hx hb dX5_lays_49 (by decide) (fun c49 => ?_) (fun c49 => ?_)
            · have hke : k = min n4 6 := by
                have h6 : k = 6 := zke (v := 6) rfl (by decide) (show k ≤ 6 by omega) c49
                omega
              refine lv_iload_n hx hb dX5_lays_99 rfl (lv_at hl 2 rfl) ?_
              exact zFG.iret hx hb hr hlocks hQ hw rfl dX5_lays_100 (by rw [show zm_lays bo so nn S fd 0 = (nI (zLy (nn 0) S k).2, (zLy (nn 0) S k).1, fd) from (by unfold zm_lays; rw [if_pos (by decide), show zc (0 : Int32) = 0 from rfl, if_neg c21, hs4, zml_of hn4, hke])]; exact ⟨rfl, rfl⟩)
            · have hk6 : k < 6 := zkn (v := 6) rfl (by omega) (by omega) c49
              refine lv_aload_n hx hb dX5_lays_52 rfl (lv_at hl 1 rfl) ?_
              refine gfX5_232 hx hb hown hts hK hw 32 rfl rfl dX5_lays_53 ?_
              refine lv_iload hx hb dX5_lays_56 (lv_at hl 3 rfl) ?_
              refine zlal hx hb hK hw 33 1 k rfl rfl rfl (by omega) (by decide) dX5_lays_58 ?_
              refine lv_lstore (lv' := [(5, .long ((nn 0) k)), (0, .ref (b 0)), (2, .ref (b 5)), (3, .int (nI (zLy (nn 0) S k).2)), (4, .int (nI k))]) hx hb dX5_lays_59 hl (by decide) rfl (fun ls hl => ?_)
              refine lv_lload hx hb dX5_lays_61 (lv_at hl 0 rfl) ?_
              refine lv_lconst (v := 0) hx hb dX5_lays_63 (by decide) ?_
              refine W.lcmp hx hb dX5_lays_64 ?_
              refine lv_if_lt (tgt := 93) hx hb dX5_lays_65 (by decide) (fun c65 => ?_) (fun c65 => ?_)
              · have c65 := (lg_cmp_lt _ _).mp c65
                have hly : zLy (nn 0) S (k + 1) = _ := zLy_f (fun h => absurd h.1 (Int64.not_le.mpr c65))
                have hl : lv_has ls 7 [(5, .long ((nn 0) k)), (0, .ref (b 0)), (2, .ref (b 5)), (3, .int (nI (zLy (nn 0) S (k + 1)).2)), (4, .int (nI k))] := by
                  rw [show nI (zLy (nn 0) S (k + 1)).2 = nI (zLy (nn 0) S k).2 from (by rw [hly])]; exact hl
                have hw : zHw x A s.heap (zHW x b t ((zLy (nn 0) S (k + 1)).1) l0 T l1 K l2 ik fd tb tq bo so nn) H locs := hw.re (by rw [hly])
                refine lv_iinc (v := nI (k + 1)) (lv' := [(4, .int (nI (k + 1))), (5, .long ((nn 0) k)), (0, .ref (b 0)), (2, .ref (b 5)), (3, .int (nI (zLy (nn 0) S (k + 1)).2))]) hx hb dX5_lays_93 hl (k := 4) rfl (nI_1 k) (by decide) rfl (fun ls hl => ?_)
                refine lv_goto (tgt := 36) hx hb dX5_lays_96 (by decide) ?_
                exact ih36 (k + 1) (by omega) (by omega) _ _ _ hw (lv_sub hl [2, 3, 4, 0] rfl)
              · have c65 := fun h => c65 ((lg_cmp_lt _ _).mpr h)
                refine lv_lload hx hb dX5_lays_68 (lv_at hl 0 rfl) ?_
                refine lv_ldc2 (v := 99) hx hb hown (hts _ ckX5_251) dX5_lays_70 ?_
                refine W.lcmp hx hb dX5_lays_73 ?_
                refine lv_if_gt (tgt := 93) hx hb dX5_lays_74 (by decide) (fun c74 => ?_) (fun c74 => ?_)
                · have c74 := (lg_cmp_gt _ _).mp c74
                  have hly : zLy (nn 0) S (k + 1) = _ := zLy_f (fun h => absurd h.2 (Int64.not_le.mpr c74))
                  have hl : lv_has ls 7 [(5, .long ((nn 0) k)), (0, .ref (b 0)), (2, .ref (b 5)), (3, .int (nI (zLy (nn 0) S (k + 1)).2)), (4, .int (nI k))] := by
                    rw [show nI (zLy (nn 0) S (k + 1)).2 = nI (zLy (nn 0) S k).2 from (by rw [hly])]; exact hl
                  have hw : zHw x A s.heap (zHW x b t ((zLy (nn 0) S (k + 1)).1) l0 T l1 K l2 ik fd tb tq bo so nn) H locs := hw.re (by rw [hly])
                  refine lv_iinc (v := nI (k + 1)) (lv' := [(4, .int (nI (k + 1))), (5, .long ((nn 0) k)), (0, .ref (b 0)), (2, .ref (b 5)), (3, .int (nI (zLy (nn 0) S (k + 1)).2))]) hx hb dX5_lays_93 hl (k := 4) rfl (nI_1 k) (by decide) rfl (fun ls hl => ?_)
                  refine lv_goto (tgt := 36) hx hb dX5_lays_96 (by decide) ?_
                  exact ih36 (k + 1) (by omega) (by omega) _ _ _ hw (lv_sub hl [2, 3, 4, 0] rfl)
                · have c74 := fun h => c74 ((lg_cmp_gt _ _).mpr h)
                  refine lv_aload_n hx hb dX5_lays_77 rfl (lv_at hl 1 rfl) ?_
                  refine gfX5_10 hx hb hown hts hK hw 0 rfl rfl dX5_lays_78 ?_
                  refine gfX5_67 hx hb hown hts hK hw 3 rfl rfl dX5_lays_81 ?_
                  refine lv_iload hx hb dX5_lays_84 (lv_at hl 4 rfl) ?_
                  refine lv_lload hx hb dX5_lays_86 (lv_at hl 0 rfl) ?_
                  refine lv_l2i hx hb dX5_lays_88 rfl ?_
                  refine zias hx hb hK hw 4 0 k rfl rfl rfl (by omega) (by decide) dX5_lays_89 (fun H locs hw => ?_)
                  have hw : zHw x A s.heap (zHW x b t (zU ((zLy (nn 0) S k).1) 1 k (((nn 0) k).toInt32)) l0 T l1 K l2 ik fd tb tq bo so nn) H locs := hw
                  refine lv_iinc (v := nI ((zLy (nn 0) S k).2 + 1)) (lv' := [(3, .int (nI ((zLy (nn 0) S k).2 + 1))), (5, .long ((nn 0) k)), (0, .ref (b 0)), (2, .ref (b 5)), (4, .int (nI k))]) hx hb dX5_lays_90 hl (k := 3) rfl (nI_1 ((zLy (nn 0) S k).2)) (by decide) rfl (fun ls hl => ?_)
                  have hly : zLy (nn 0) S (k + 1) = _ := zLy_t ⟨Int64.not_lt.mp c65, Int64.not_lt.mp c74⟩
                  have hl : lv_has ls 7 [(3, .int (nI (zLy (nn 0) S (k + 1)).2)), (5, .long ((nn 0) k)), (0, .ref (b 0)), (2, .ref (b 5)), (4, .int (nI k))] := by
                    rw [show nI (zLy (nn 0) S (k + 1)).2 = nI ((zLy (nn 0) S k).2 + 1) from (by rw [hly])]; exact hl
                  have hw : zHw x A s.heap (zHW x b t ((zLy (nn 0) S (k + 1)).1) l0 T l1 K l2 ik fd tb tq bo so nn) H locs := hw.re (by rw [hly])
                  refine lv_iinc (v := nI (k + 1)) (lv' := [(4, .int (nI (k + 1))), (3, .int (nI (zLy (nn 0) S (k + 1)).2)), (5, .long ((nn 0) k)), (0, .ref (b 0)), (2, .ref (b 5))]) hx hb dX5_lays_93 hl (k := 4) rfl (nI_1 k) (by decide) rfl (fun ls hl => ?_)
                  refine lv_goto (tgt := 36) hx hb dX5_lays_96 (by decide) ?_
                  exact ih36 (k + 1) (by omega) (by omega) _ _ _ hw (lv_sub hl [3, 4, 1, 0] rfl)
      exact loop36 (_ + 1) 0 (Nat.lt_succ_self _) (Nat.zero_le _) _ _ _ hw (lv_sub hl [3, 2, 1, 0] rfl)
    · have c21 := zb_n0.mp c21
      refine lv_aload_n hx hb dX5_lays_24 rfl (lv_at hl 1 rfl) ?_
      refine lv_ldc (v := (-1000000006)) hx hb hown (hts _ ckX5_231) dX5_lays_25 ?_
      refine zcVwi (r := (-1000000006)) hx hb hml hown hts hl.1 hK hE hA lkX5_52 (c_X5_found x b t S l0 T l1 K l2 ik fd tb tq bo so nn (-1000000006) 5 (by decide) (by decide)) ⟨Nat.le_of_ble_eq_true rfl, Nat.le_of_ble_eq_true rfl⟩ ⟨Nat.zero_le _, Nat.zero_le _⟩ hw 0 3 rfl rfl rfl rfl (Nat.le_of_ble_eq_true rfl) dX5_lays_27 (fun H locs hw => ?_)
      have hw : zHw x A s.heap (zHW x b t S l0 T l1 K l2 ik (upd fd 5 (fd 5 + 1)) tb tq bo so nn) H locs := hw
      exact zFG.iret hx hb hr hlocks hQ hw rfl dX5_lays_30 (by rw [show zm_lays bo so nn S fd 0 = ((-1000000006), S, zFd fd 5) from (by unfold zm_lays; rw [if_pos (by decide), show zc (0 : Int32) = 0 from rfl, if_pos c21])]; exact ⟨rfl, rfl⟩)
  · refine lv_aload_n hx hb dX5_lays_0 rfl (lv_at hl 0 rfl) ?_
    refine lv_iload_n hx hb dX5_lays_1 rfl (lv_at hl 1 rfl) ?_
    refine zcVwa hx hb hml hown hts hl.1 hK hE hA lkX5_219 (c_X5_sheetAt_1 x b t S l0 T l1 K l2 ik fd tb tq bo so nn) ⟨Nat.le_of_ble_eq_true rfl, Nat.le_of_ble_eq_true rfl⟩ ⟨Nat.zero_le _, Nat.zero_le _⟩ hw 0 3 rfl rfl rfl rfl (Nat.le_of_ble_eq_true rfl) dX5_lays_2 (fun H locs hw => ?_)
    have hw : zHw x A s.heap (zHW x b t S l0 T l1 K l2 ik fd tb tq bo so nn) H locs := hw
    refine lv_astore_n (lv' := [(2, .ref (b 6)), (0, .ref (b 0)), (1, .int 1)]) hx hb dX5_lays_5 rfl hl (by decide) rfl (fun ls hl => ?_)
    refine lv_aload_n hx hb dX5_lays_6 rfl (lv_at hl 0 rfl) ?_
    refine lv_ifnonnull (tgt := 17) hx hb dX5_lays_7 (by decide) ?_
    refine lv_aload_n hx hb dX5_lays_17 rfl (lv_at hl 0 rfl) ?_
    refine zcVmi (r := zb (bo 1 = 0)) (C1 := (zOW x b t ik fd ++ (zTW x (t 0) S l0 ++ (zTW x (t 1) T l1 ++ (zTW x (t 2) K l2 ++ (zPW x b tb tq ++ zSH x (b 5) (b 9) (bo 0) (so 0) (nn 0))))))) (C2 := (zSH x (b 7) (b 11) (bo 2) (so 2) (nn 2) ++ zSH x (b 8) (b 12) (bo 3) (so 3) (nn 3))) hx hb hml hown hts hl.1 hK hE hA lkX5_228 (c_X1_isMissing x (b 6) (b 10) (bo 1) (so 1) (nn 1) ) ⟨Nat.le_of_ble_eq_true rfl, Nat.le_of_ble_eq_true rfl⟩ ⟨Nat.zero_le _, Nat.zero_le _⟩ hw 0 0 rfl rfl rfl rfl (Nat.le_of_ble_eq_true rfl) dX5_lays_18 (fun H locs hw => ?_)
    have hw : zHw x A s.heap (zHW x b t S l0 T l1 K l2 ik fd tb tq bo so nn) H locs := hw
    refine lv_if_eq (tgt := 31) hx hb dX5_lays_21 (by decide) (fun c21 => ?_) (fun c21 => ?_)
    · have c21 := zb_0.mp c21
      obtain ⟨-, n4, hn4, hs4⟩ := hS 1 (by decide)
      refine lv_iconst (v := 0) hx hb dX5_lays_31 (by decide) ?_
      refine lv_istore_n (lv' := [(3, .int 0), (2, .ref (b 6)), (0, .ref (b 0)), (1, .int 1)]) hx hb dX5_lays_32 rfl hl (by decide) rfl (fun ls hl => ?_)
      refine lv_iconst (v := 0) hx hb dX5_lays_33 (by decide) ?_
      refine lv_istore (lv' := [(4, .int 0), (3, .int 0), (2, .ref (b 6)), (0, .ref (b 0)), (1, .int 1)]) hx hb dX5_lays_34 hl (by decide) rfl (fun ls hl => ?_)
      have loop36 : ∀ (dd : Nat) (k : Nat), 6 - k < dd → (hk : k ≤ min n4 6) → ∀ (H : Heap) (locs : List Loc) (ls : Array Slot), zHw x A s.heap (zHW x b t ((zLy (nn 1) S k).1) l0 T l1 K l2 ik fd tb tq bo so nn) H locs → lv_has ls 7 [(0, .ref (b 0)), (2, .ref (b 6)), (3, .int (nI (zLy (nn 1) S k).2)), (4, .int (nI k))] → W p x.1 e (zRM 1) s m ar below meth c H locs 0 0 Q (F0 m 36 ls []) := by
        intro dd
        induction dd with
        | zero => intro k hm; exact absurd hm (Nat.not_lt_zero _)
        | succ dd ih36 =>
          intro k hm hk H locs ls hw hl
          refine lv_iload hx hb dX5_lays_36 (lv_at hl 3 rfl) ?_
          refine lv_aload_n hx hb dX5_lays_38 rfl (lv_at hl 1 rfl) ?_
          refine gfX5_227 hx hb hown hts hK hw 34 rfl rfl dX5_lays_39 ?_
          refine lv_icmp_ge (tgt := 99) hx hb dX5_lays_42 (by decide) (fun c42 => ?_) (fun c42 => ?_)
          · have hke : k = min n4 6 := by
              have h4 := zke hs4 (by omega) (show k ≤ n4 by omega) c42
              omega
            refine lv_iload_n hx hb dX5_lays_99 rfl (lv_at hl 2 rfl) ?_
            exact zFG.iret hx hb hr hlocks hQ hw rfl dX5_lays_100 (by rw [show zm_lays bo so nn S fd 1 = (nI (zLy (nn 1) S k).2, (zLy (nn 1) S k).1, fd) from (by unfold zm_lays; rw [if_pos (by decide), show zc (1 : Int32) = 1 from rfl, if_neg c21, hs4, zml_of hn4, hke])]; exact ⟨rfl, rfl⟩)
          · have hk4 : k < n4 := zkn hs4 (by omega) (by omega) c42
            refine lv_iload hx hb dX5_lays_45 (lv_at hl 3 rfl) ?_
            refine lv_bipush (v := 6) hx hb dX5_lays_47 (by decide) ?_
            refine lv_icmp_ge (tgt := 99) hx hb dX5_lays_49 (by decide) (fun c49 => ?_) (fun c49 => ?_)
            · have hke : k = min n4 6 := by
                have h6 : k = 6 := zke (v := 6) rfl (by decide) (show k ≤ 6 by omega) c49
                omega
              refine lv_iload_n hx hb dX5_lays_99 rfl (lv_at hl 2 rfl) ?_
              exact zFG.iret hx hb hr hlocks hQ hw rfl dX5_lays_100 (by rw [show zm_lays bo so nn S fd 1 = (nI (zLy (nn 1) S k).2, (zLy (nn 1) S k).1, fd) from (by unfold zm_lays; rw [if_pos (by decide), show zc (1 : Int32) = 1 from rfl, if_neg c21, hs4, zml_of hn4, hke])]; exact ⟨rfl, rfl⟩)
            · have hk6 : k < 6 := zkn (v := 6) rfl (by omega) (by omega) c49
              refine lv_aload_n hx hb dX5_lays_52 rfl (lv_at hl 1 rfl) ?_
              refine gfX5_232 hx hb hown hts hK hw 34 rfl rfl dX5_lays_53 ?_
              refine lv_iload hx hb dX5_lays_56 (lv_at hl 3 rfl) ?_
              refine zlal hx hb hK hw 35 1 k rfl rfl rfl (by omega) (by decide) dX5_lays_58 ?_
              refine lv_lstore (lv' := [(5, .long ((nn 1) k)), (0, .ref (b 0)), (2, .ref (b 6)), (3, .int (nI (zLy (nn 1) S k).2)), (4, .int (nI k))]) hx hb dX5_lays_59 hl (by decide) rfl (fun ls hl => ?_)
              refine lv_lload hx hb dX5_lays_61 (lv_at hl 0 rfl) ?_
              refine lv_lconst (v := 0) hx hb dX5_lays_63 (by decide) ?_
              refine W.lcmp hx hb dX5_lays_64 ?_
              refine lv_if_lt (tgt := 93) hx hb dX5_lays_65 (by decide) (fun c65 => ?_) (fun c65 => ?_)
              · have c65 := (lg_cmp_lt _ _).mp c65
                have hly : zLy (nn 1) S (k + 1) = _ := zLy_f (fun h => absurd h.1 (Int64.not_le.mpr c65))
                have hl : lv_has ls 7 [(5, .long ((nn 1) k)), (0, .ref (b 0)), (2, .ref (b 6)), (3, .int (nI (zLy (nn 1) S (k + 1)).2)), (4, .int (nI k))] := by
                  rw [show nI (zLy (nn 1) S (k + 1)).2 = nI (zLy (nn 1) S k).2 from (by rw [hly])]; exact hl
                have hw : zHw x A s.heap (zHW x b t ((zLy (nn 1) S (k + 1)).1) l0 T l1 K l2 ik fd tb tq bo so nn) H locs := hw.re (by rw [hly])
                refine lv_iinc (v := nI (k + 1)) (lv' := [(4, .int (nI (k + 1))), (5, .long ((nn 1) k)), (0, .ref (b 0)), (2, .ref (b 6)), (3, .int (nI (zLy (nn 1) S (k + 1)).2))]) hx hb dX5_lays_93 hl (k := 4) rfl (nI_1 k) (by decide) rfl (fun ls hl => ?_)
                refine lv_goto (tgt := 36) hx hb dX5_lays_96 (by decide) ?_
                exact ih36 (k + 1) (by omega) (by omega) _ _ _ hw (lv_sub hl [2, 3, 4, 0] rfl)
              · have c65 := fun h => c65 ((lg_cmp_lt _ _).mpr h)
                refine lv_lload hx hb dX5_lays_68 (lv_at hl 0 rfl) ?_
                refine lv_ldc2 (v := 99) hx hb hown (hts _ ckX5_251) dX5_lays_70 ?_
                refine W.lcmp hx hb dX5_lays_73 ?_
                refine lv_if_gt (tgt := 93) hx hb dX5_lays_74 (by decide) (fun c74 => ?_) (fun c74 => ?_)
                · have c74 := (lg_cmp_gt _ _).mp c74
                  have hly : zLy (nn 1) S (k + 1) = _ := zLy_f (fun h => absurd h.2 (Int64.not_le.mpr c74))
                  have hl : lv_has ls 7 [(5, .long ((nn 1) k)), (0, .ref (b 0)), (2, .ref (b 6)), (3, .int (nI (zLy (nn 1) S (k + 1)).2)), (4, .int (nI k))] := by
                    rw [show nI (zLy (nn 1) S (k + 1)).2 = nI (zLy (nn 1) S k).2 from (by rw [hly])]; exact hl
                  have hw : zHw x A s.heap (zHW x b t ((zLy (nn 1) S (k + 1)).1) l0 T l1 K l2 ik fd tb tq bo so nn) H locs := hw.re (by rw [hly])
                  refine lv_iinc (v := nI (k + 1)) (lv' := [(4, .int (nI (k + 1))), (5, .long ((nn 1) k)), (0, .ref (b 0)), (2, .ref (b 6)), (3, .int (nI (zLy (nn 1) S (k + 1)).2))]) hx hb dX5_lays_93 hl (k := 4) rfl (nI_1 k) (by decide) rfl (fun ls hl => ?_)
                  refine lv_goto (tgt := 36) hx hb dX5_lays_96 (by decide) ?_
                  exact ih36 (k + 1) (by omega) (by omega) _ _ _ hw (lv_sub hl [2, 3, 4, 0] rfl)
                · have c74 := fun h => c74 ((lg_cmp_gt _ _).mpr h)
                  refine lv_aload_n hx hb dX5_lays_77 rfl (lv_at hl 1 rfl) ?_
                  refine gfX5_10 hx hb hown hts hK hw 0 rfl rfl dX5_lays_78 ?_
                  refine gfX5_67 hx hb hown hts hK hw 3 rfl rfl dX5_lays_81 ?_
                  refine lv_iload hx hb dX5_lays_84 (lv_at hl 4 rfl) ?_
                  refine lv_lload hx hb dX5_lays_86 (lv_at hl 0 rfl) ?_
                  refine lv_l2i hx hb dX5_lays_88 rfl ?_
                  refine zias hx hb hK hw 4 0 k rfl rfl rfl (by omega) (by decide) dX5_lays_89 (fun H locs hw => ?_)
                  have hw : zHw x A s.heap (zHW x b t (zU ((zLy (nn 1) S k).1) 1 k (((nn 1) k).toInt32)) l0 T l1 K l2 ik fd tb tq bo so nn) H locs := hw
                  refine lv_iinc (v := nI ((zLy (nn 1) S k).2 + 1)) (lv' := [(3, .int (nI ((zLy (nn 1) S k).2 + 1))), (5, .long ((nn 1) k)), (0, .ref (b 0)), (2, .ref (b 6)), (4, .int (nI k))]) hx hb dX5_lays_90 hl (k := 3) rfl (nI_1 ((zLy (nn 1) S k).2)) (by decide) rfl (fun ls hl => ?_)
                  have hly : zLy (nn 1) S (k + 1) = _ := zLy_t ⟨Int64.not_lt.mp c65, Int64.not_lt.mp c74⟩
                  have hl : lv_has ls 7 [(3, .int (nI (zLy (nn 1) S (k + 1)).2)), (5, .long ((nn 1) k)), (0, .ref (b 0)), (2, .ref (b 6)), (4, .int (nI k))] := by
                    rw [show nI (zLy (nn 1) S (k + 1)).2 = nI ((zLy (nn 1) S k).2 + 1) from (by rw [hly])]; exact hl
                  have hw : zHw x A s.heap (zHW x b t ((zLy (nn 1) S (k + 1)).1) l0 T l1 K l2 ik fd tb tq bo so nn) H locs := hw.re (by rw [hly])
                  refine lv_iinc (v := nI (k + 1)) (lv' := [(4, .int (nI (k + 1))), (3, .int (nI (zLy (nn 1) S (k + 1)).2)), (5, .long ((nn 1) k)), (0, .ref (b 0)), (2, .ref (b 6))]) hx hb dX5_lays_93 hl (k := 4) rfl (nI_1 k) (by decide) rfl (fun ls hl => ?_)
                  refine lv_goto (tgt := 36) hx hb dX5_lays_96 (by decide) ?_
                  exact ih36 (k + 1) (by omega) (by omega) _ _ _ hw (lv_sub hl [3, 4, 1, 0] rfl)
      exact loop36 (_ + 1) 0 (Nat.lt_succ_self _) (Nat.zero_le _) _ _ _ hw (lv_sub hl [3, 2, 1, 0] rfl)
    · have c21 := zb_n0.mp c21
      refine lv_aload_n hx hb dX5_lays_24 rfl (lv_at hl 1 rfl) ?_
      refine lv_ldc (v := (-1000000006)) hx hb hown (hts _ ckX5_231) dX5_lays_25 ?_
      refine zcVwi (r := (-1000000006)) hx hb hml hown hts hl.1 hK hE hA lkX5_52 (c_X5_found x b t S l0 T l1 K l2 ik fd tb tq bo so nn (-1000000006) 5 (by decide) (by decide)) ⟨Nat.le_of_ble_eq_true rfl, Nat.le_of_ble_eq_true rfl⟩ ⟨Nat.zero_le _, Nat.zero_le _⟩ hw 0 3 rfl rfl rfl rfl (Nat.le_of_ble_eq_true rfl) dX5_lays_27 (fun H locs hw => ?_)
      have hw : zHw x A s.heap (zHW x b t S l0 T l1 K l2 ik (upd fd 5 (fd 5 + 1)) tb tq bo so nn) H locs := hw
      exact zFG.iret hx hb hr hlocks hQ hw rfl dX5_lays_30 (by rw [show zm_lays bo so nn S fd 1 = ((-1000000006), S, zFd fd 5) from (by unfold zm_lays; rw [if_pos (by decide), show zc (1 : Int32) = 1 from rfl, if_pos c21])]; exact ⟨rfl, rfl⟩)
  · refine lv_aload_n hx hb dX5_lays_0 rfl (lv_at hl 0 rfl) ?_
    refine lv_iload_n hx hb dX5_lays_1 rfl (lv_at hl 1 rfl) ?_
    refine zcVwa hx hb hml hown hts hl.1 hK hE hA lkX5_219 (c_X5_sheetAt_2 x b t S l0 T l1 K l2 ik fd tb tq bo so nn) ⟨Nat.le_of_ble_eq_true rfl, Nat.le_of_ble_eq_true rfl⟩ ⟨Nat.zero_le _, Nat.zero_le _⟩ hw 0 3 rfl rfl rfl rfl (Nat.le_of_ble_eq_true rfl) dX5_lays_2 (fun H locs hw => ?_)
    have hw : zHw x A s.heap (zHW x b t S l0 T l1 K l2 ik fd tb tq bo so nn) H locs := hw
    refine lv_astore_n (lv' := [(2, .ref (b 7)), (0, .ref (b 0)), (1, .int 2)]) hx hb dX5_lays_5 rfl hl (by decide) rfl (fun ls hl => ?_)
    refine lv_aload_n hx hb dX5_lays_6 rfl (lv_at hl 0 rfl) ?_
    refine lv_ifnonnull (tgt := 17) hx hb dX5_lays_7 (by decide) ?_
    refine lv_aload_n hx hb dX5_lays_17 rfl (lv_at hl 0 rfl) ?_
    refine zcVmi (r := zb (bo 2 = 0)) (C1 := (zOW x b t ik fd ++ (zTW x (t 0) S l0 ++ (zTW x (t 1) T l1 ++ (zTW x (t 2) K l2 ++ (zPW x b tb tq ++ (zSH x (b 5) (b 9) (bo 0) (so 0) (nn 0) ++ zSH x (b 6) (b 10) (bo 1) (so 1) (nn 1)))))))) (C2 := (zSH x (b 8) (b 12) (bo 3) (so 3) (nn 3))) hx hb hml hown hts hl.1 hK hE hA lkX5_228 (c_X1_isMissing x (b 7) (b 11) (bo 2) (so 2) (nn 2) ) ⟨Nat.le_of_ble_eq_true rfl, Nat.le_of_ble_eq_true rfl⟩ ⟨Nat.zero_le _, Nat.zero_le _⟩ hw 0 0 rfl rfl rfl rfl (Nat.le_of_ble_eq_true rfl) dX5_lays_18 (fun H locs hw => ?_)
    have hw : zHw x A s.heap (zHW x b t S l0 T l1 K l2 ik fd tb tq bo so nn) H locs := hw
    refine lv_if_eq (tgt := 31) hx hb dX5_lays_21 (by decide) (fun c21 => ?_) (fun c21 => ?_)
    · have c21 := zb_0.mp c21
      obtain ⟨-, n4, hn4, hs4⟩ := hS 2 (by decide)
      refine lv_iconst (v := 0) hx hb dX5_lays_31 (by decide) ?_
      refine lv_istore_n (lv' := [(3, .int 0), (2, .ref (b 7)), (0, .ref (b 0)), (1, .int 2)]) hx hb dX5_lays_32 rfl hl (by decide) rfl (fun ls hl => ?_)
      refine lv_iconst (v := 0) hx hb dX5_lays_33 (by decide) ?_
      refine lv_istore (lv' := [(4, .int 0), (3, .int 0), (2, .ref (b 7)), (0, .ref (b 0)), (1, .int 2)]) hx hb dX5_lays_34 hl (by decide) rfl (fun ls hl => ?_)
      have loop36 : ∀ (dd : Nat) (k : Nat), 6 - k < dd → (hk : k ≤ min n4 6) → ∀ (H : Heap) (locs : List Loc) (ls : Array Slot), zHw x A s.heap (zHW x b t ((zLy (nn 2) S k).1) l0 T l1 K l2 ik fd tb tq bo so nn) H locs → lv_has ls 7 [(0, .ref (b 0)), (2, .ref (b 7)), (3, .int (nI (zLy (nn 2) S k).2)), (4, .int (nI k))] → W p x.1 e (zRM 1) s m ar below meth c H locs 0 0 Q (F0 m 36 ls []) := by
        intro dd
        induction dd with
        | zero => intro k hm; exact absurd hm (Nat.not_lt_zero _)
        | succ dd ih36 =>
          intro k hm hk H locs ls hw hl
          refine lv_iload hx hb dX5_lays_36 (lv_at hl 3 rfl) ?_
          refine lv_aload_n hx hb dX5_lays_38 rfl (lv_at hl 1 rfl) ?_
          refine gfX5_227 hx hb hown hts hK hw 36 rfl rfl dX5_lays_39 ?_
          refine lv_icmp_ge (tgt := 99) hx hb dX5_lays_42 (by decide) (fun c42 => ?_) (fun c42 => ?_)
          · have hke : k = min n4 6 := by
              have h4 := zke hs4 (by omega) (show k ≤ n4 by omega) c42
              omega
            refine lv_iload_n hx hb dX5_lays_99 rfl (lv_at hl 2 rfl) ?_
            exact zFG.iret hx hb hr hlocks hQ hw rfl dX5_lays_100 (by rw [show zm_lays bo so nn S fd 2 = (nI (zLy (nn 2) S k).2, (zLy (nn 2) S k).1, fd) from (by unfold zm_lays; rw [if_pos (by decide), show zc (2 : Int32) = 2 from rfl, if_neg c21, hs4, zml_of hn4, hke])]; exact ⟨rfl, rfl⟩)
          · have hk4 : k < n4 := zkn hs4 (by omega) (by omega) c42
            refine lv_iload hx hb dX5_lays_45 (lv_at hl 3 rfl) ?_
            refine lv_bipush (v := 6) hx hb dX5_lays_47 (by decide) ?_
            refine lv_icmp_ge (tgt := 99) hx hb dX5_lays_49 (by decide) (fun c49 => ?_) (fun c49 => ?_)
            · have hke : k = min n4 6 := by
                have h6 : k = 6 := zke (v := 6) rfl (by decide) (show k ≤ 6 by omega) c49
                omega
              refine lv_iload_n hx hb dX5_lays_99 rfl (lv_at hl 2 rfl) ?_
              exact zFG.iret hx hb hr hlocks hQ hw rfl dX5_lays_100 (by rw [show zm_lays bo so nn S fd 2 = (nI (zLy (nn 2) S k).2, (zLy (nn 2) S k).1, fd) from (by unfold zm_lays; rw [if_pos (by decide), show zc (2 : Int32) = 2 from rfl, if_neg c21, hs4, zml_of hn4, hke])]; exact ⟨rfl, rfl⟩)
            · have hk6 : k < 6 := zkn (v := 6) rfl (by omega) (by omega) c49
              refine lv_aload_n hx hb dX5_lays_52 rfl (lv_at hl 1 rfl) ?_
              refine gfX5_232 hx hb hown hts hK hw 36 rfl rfl dX5_lays_53 ?_
              refine lv_iload hx hb dX5_lays_56 (lv_at hl 3 rfl) ?_
              refine zlal hx hb hK hw 37 1 k rfl rfl rfl (by omega) (by decide) dX5_lays_58 ?_
              refine lv_lstore (lv' := [(5, .long ((nn 2) k)), (0, .ref (b 0)), (2, .ref (b 7)), (3, .int (nI (zLy (nn 2) S k).2)), (4, .int (nI k))]) hx hb dX5_lays_59 hl (by decide) rfl (fun ls hl => ?_)
              refine lv_lload hx hb dX5_lays_61 (lv_at hl 0 rfl) ?_
              refine lv_lconst (v := 0) hx hb dX5_lays_63 (by decide) ?_
              refine W.lcmp hx hb dX5_lays_64 ?_
              refine lv_if_lt (tgt := 93) hx hb dX5_lays_65 (by decide) (fun c65 => ?_) (fun c65 => ?_)
              · have c65 := (lg_cmp_lt _ _).mp c65
                have hly : zLy (nn 2) S (k + 1) = _ := zLy_f (fun h => absurd h.1 (Int64.not_le.mpr c65))
                have hl : lv_has ls 7 [(5, .long ((nn 2) k)), (0, .ref (b 0)), (2, .ref (b 7)), (3, .int (nI (zLy (nn 2) S (k + 1)).2)), (4, .int (nI k))] := by
                  rw [show nI (zLy (nn 2) S (k + 1)).2 = nI (zLy (nn 2) S k).2 from (by rw [hly])]; exact hl
                have hw : zHw x A s.heap (zHW x b t ((zLy (nn 2) S (k + 1)).1) l0 T l1 K l2 ik fd tb tq bo so nn) H locs := hw.re (by rw [hly])
                refine lv_iinc (v := nI (k + 1)) (lv' := [(4, .int (nI (k + 1))), (5, .long ((nn 2) k)), (0, .ref (b 0)), (2, .ref (b 7)), (3, .int (nI (zLy (nn 2) S (k + 1)).2))]) hx hb dX5_lays_93 hl (k := 4) rfl (nI_1 k) (by decide) rfl (fun ls hl => ?_)
                refine lv_goto (tgt := 36) hx hb dX5_lays_96 (by decide) ?_
                exact ih36 (k + 1) (by omega) (by omega) _ _ _ hw (lv_sub hl [2, 3, 4, 0] rfl)
              · have c65 := fun h => c65 ((lg_cmp_lt _ _).mpr h)
                refine lv_lload hx hb dX5_lays_68 (lv_at hl 0 rfl) ?_
                refine lv_ldc2 (v := 99) hx hb hown (hts _ ckX5_251) dX5_lays_70 ?_
                refine W.lcmp hx hb dX5_lays_73 ?_
                refine lv_if_gt (tgt := 93) hx hb dX5_lays_74 (by decide) (fun c74 => ?_) (fun c74 => ?_)
                · have c74 := (lg_cmp_gt _ _).mp c74
                  have hly : zLy (nn 2) S (k + 1) = _ := zLy_f (fun h => absurd h.2 (Int64.not_le.mpr c74))
                  have hl : lv_has ls 7 [(5, .long ((nn 2) k)), (0, .ref (b 0)), (2, .ref (b 7)), (3, .int (nI (zLy (nn 2) S (k + 1)).2)), (4, .int (nI k))] := by
                    rw [show nI (zLy (nn 2) S (k + 1)).2 = nI (zLy (nn 2) S k).2 from (by rw [hly])]; exact hl
                  have hw : zHw x A s.heap (zHW x b t ((zLy (nn 2) S (k + 1)).1) l0 T l1 K l2 ik fd tb tq bo so nn) H locs := hw.re (by rw [hly])
                  refine lv_iinc (v := nI (k + 1)) (lv' := [(4, .int (nI (k + 1))), (5, .long ((nn 2) k)), (0, .ref (b 0)), (2, .ref (b 7)), (3, .int (nI (zLy (nn 2) S (k + 1)).2))]) hx hb dX5_lays_93 hl (k := 4) rfl (nI_1 k) (by decide) rfl (fun ls hl => ?_)
                  refine lv_goto (tgt := 36) hx hb dX5_lays_96 (by decide) ?_
                  exact ih36 (k + 1) (by omega) (by omega) _ _ _ hw (lv_sub hl [2, 3, 4, 0] rfl)
                · have c74 := fun h => c74 ((lg_cmp_gt _ _).mpr h)
                  refine lv_aload_n hx hb dX5_lays_77 rfl (lv_at hl 1 rfl) ?_
                  refine gfX5_10 hx hb hown hts hK hw 0 rfl rfl dX5_lays_78 ?_
                  refine gfX5_67 hx hb hown hts hK hw 3 rfl rfl dX5_lays_81 ?_
                  refine lv_iload hx hb dX5_lays_84 (lv_at hl 4 rfl) ?_
                  refine lv_lload hx hb dX5_lays_86 (lv_at hl 0 rfl) ?_
                  refine lv_l2i hx hb dX5_lays_88 rfl ?_
                  refine zias hx hb hK hw 4 0 k rfl rfl rfl (by omega) (by decide) dX5_lays_89 (fun H locs hw => ?_)
                  have hw : zHw x A s.heap (zHW x b t (zU ((zLy (nn 2) S k).1) 1 k (((nn 2) k).toInt32)) l0 T l1 K l2 ik fd tb tq bo so nn) H locs := hw
                  refine lv_iinc (v := nI ((zLy (nn 2) S k).2 + 1)) (lv' := [(3, .int (nI ((zLy (nn 2) S k).2 + 1))), (5, .long ((nn 2) k)), (0, .ref (b 0)), (2, .ref (b 7)), (4, .int (nI k))]) hx hb dX5_lays_90 hl (k := 3) rfl (nI_1 ((zLy (nn 2) S k).2)) (by decide) rfl (fun ls hl => ?_)
                  have hly : zLy (nn 2) S (k + 1) = _ := zLy_t ⟨Int64.not_lt.mp c65, Int64.not_lt.mp c74⟩
                  have hl : lv_has ls 7 [(3, .int (nI (zLy (nn 2) S (k + 1)).2)), (5, .long ((nn 2) k)), (0, .ref (b 0)), (2, .ref (b 7)), (4, .int (nI k))] := by
                    rw [show nI (zLy (nn 2) S (k + 1)).2 = nI ((zLy (nn 2) S k).2 + 1) from (by rw [hly])]; exact hl
                  have hw : zHw x A s.heap (zHW x b t ((zLy (nn 2) S (k + 1)).1) l0 T l1 K l2 ik fd tb tq bo so nn) H locs := hw.re (by rw [hly])
                  refine lv_iinc (v := nI (k + 1)) (lv' := [(4, .int (nI (k + 1))), (3, .int (nI (zLy (nn 2) S (k + 1)).2)), (5, .long ((nn 2) k)), (0, .ref (b 0)), (2, .ref (b 7))]) hx hb dX5_lays_93 hl (k := 4) rfl (nI_1 k) (by decide) rfl (fun ls hl => ?_)
                  refine lv_goto (tgt := 36) hx hb dX5_lays_96 (by decide) ?_
                  exact ih36 (k + 1) (by omega) (by omega) _ _ _ hw (lv_sub hl [3, 4, 1, 0] rfl)
      exact loop36 (_ + 1) 0 (Nat.lt_succ_self _) (Nat.zero_le _) _ _ _ hw (lv_sub hl [3, 2, 1, 0] rfl)
    · have c21 := zb_n0.mp c21
      refine lv_aload_n hx hb dX5_lays_24 rfl (lv_at hl 1 rfl) ?_
      refine lv_ldc (v := (-1000000006)) hx hb hown (hts _ ckX5_231) dX5_lays_25 ?_
      refine zcVwi (r := (-1000000006)) hx hb hml hown hts hl.1 hK hE hA lkX5_52 (c_X5_found x b t S l0 T l1 K l2 ik fd tb tq bo so nn (-1000000006) 5 (by decide) (by decide)) ⟨Nat.le_of_ble_eq_true rfl, Nat.le_of_ble_eq_true rfl⟩ ⟨Nat.zero_le _, Nat.zero_le _⟩ hw 0 3 rfl rfl rfl rfl (Nat.le_of_ble_eq_true rfl) dX5_lays_27 (fun H locs hw => ?_)
      have hw : zHw x A s.heap (zHW x b t S l0 T l1 K l2 ik (upd fd 5 (fd 5 + 1)) tb tq bo so nn) H locs := hw
      exact zFG.iret hx hb hr hlocks hQ hw rfl dX5_lays_30 (by rw [show zm_lays bo so nn S fd 2 = ((-1000000006), S, zFd fd 5) from (by unfold zm_lays; rw [if_pos (by decide), show zc (2 : Int32) = 2 from rfl, if_pos c21])]; exact ⟨rfl, rfl⟩)
  · refine lv_aload_n hx hb dX5_lays_0 rfl (lv_at hl 0 rfl) ?_
    refine lv_iload_n hx hb dX5_lays_1 rfl (lv_at hl 1 rfl) ?_
    refine zcVwa hx hb hml hown hts hl.1 hK hE hA lkX5_219 (c_X5_sheetAt_3 x b t S l0 T l1 K l2 ik fd tb tq bo so nn) ⟨Nat.le_of_ble_eq_true rfl, Nat.le_of_ble_eq_true rfl⟩ ⟨Nat.zero_le _, Nat.zero_le _⟩ hw 0 3 rfl rfl rfl rfl (Nat.le_of_ble_eq_true rfl) dX5_lays_2 (fun H locs hw => ?_)
    have hw : zHw x A s.heap (zHW x b t S l0 T l1 K l2 ik fd tb tq bo so nn) H locs := hw
    refine lv_astore_n (lv' := [(2, .ref (b 8)), (0, .ref (b 0)), (1, .int 3)]) hx hb dX5_lays_5 rfl hl (by decide) rfl (fun ls hl => ?_)
    refine lv_aload_n hx hb dX5_lays_6 rfl (lv_at hl 0 rfl) ?_
    refine lv_ifnonnull (tgt := 17) hx hb dX5_lays_7 (by decide) ?_
    refine lv_aload_n hx hb dX5_lays_17 rfl (lv_at hl 0 rfl) ?_
    refine zcVmi (r := zb (bo 3 = 0)) (C1 := (zOW x b t ik fd ++ (zTW x (t 0) S l0 ++ (zTW x (t 1) T l1 ++ (zTW x (t 2) K l2 ++ (zPW x b tb tq ++ (zSH x (b 5) (b 9) (bo 0) (so 0) (nn 0) ++ (zSH x (b 6) (b 10) (bo 1) (so 1) (nn 1) ++ zSH x (b 7) (b 11) (bo 2) (so 2) (nn 2))))))))) (C2 := []) hx hb hml hown hts hl.1 hK hE hA lkX5_228 (c_X1_isMissing x (b 8) (b 12) (bo 3) (so 3) (nn 3) ) ⟨Nat.le_of_ble_eq_true rfl, Nat.le_of_ble_eq_true rfl⟩ ⟨Nat.zero_le _, Nat.zero_le _⟩ hw 0 0 rfl rfl rfl rfl (Nat.le_of_ble_eq_true rfl) dX5_lays_18 (fun H locs hw => ?_)
    have hw : zHw x A s.heap (zHW x b t S l0 T l1 K l2 ik fd tb tq bo so nn) H locs := hw
    refine lv_if_eq (tgt := 31) hx hb dX5_lays_21 (by decide) (fun c21 => ?_) (fun c21 => ?_)
    · have c21 := zb_0.mp c21
      obtain ⟨-, n4, hn4, hs4⟩ := hS 3 (by decide)
      refine lv_iconst (v := 0) hx hb dX5_lays_31 (by decide) ?_
      refine lv_istore_n (lv' := [(3, .int 0), (2, .ref (b 8)), (0, .ref (b 0)), (1, .int 3)]) hx hb dX5_lays_32 rfl hl (by decide) rfl (fun ls hl => ?_)
      refine lv_iconst (v := 0) hx hb dX5_lays_33 (by decide) ?_
      refine lv_istore (lv' := [(4, .int 0), (3, .int 0), (2, .ref (b 8)), (0, .ref (b 0)), (1, .int 3)]) hx hb dX5_lays_34 hl (by decide) rfl (fun ls hl => ?_)
      have loop36 : ∀ (dd : Nat) (k : Nat), 6 - k < dd → (hk : k ≤ min n4 6) → ∀ (H : Heap) (locs : List Loc) (ls : Array Slot), zHw x A s.heap (zHW x b t ((zLy (nn 3) S k).1) l0 T l1 K l2 ik fd tb tq bo so nn) H locs → lv_has ls 7 [(0, .ref (b 0)), (2, .ref (b 8)), (3, .int (nI (zLy (nn 3) S k).2)), (4, .int (nI k))] → W p x.1 e (zRM 1) s m ar below meth c H locs 0 0 Q (F0 m 36 ls []) := by
        intro dd
        induction dd with
        | zero => intro k hm; exact absurd hm (Nat.not_lt_zero _)
        | succ dd ih36 =>
          intro k hm hk H locs ls hw hl
          refine lv_iload hx hb dX5_lays_36 (lv_at hl 3 rfl) ?_
          refine lv_aload_n hx hb dX5_lays_38 rfl (lv_at hl 1 rfl) ?_
          refine gfX5_227 hx hb hown hts hK hw 38 rfl rfl dX5_lays_39 ?_
          refine lv_icmp_ge (tgt := 99) hx hb dX5_lays_42 (by decide) (fun c42 => ?_) (fun c42 => ?_)
          · have hke : k = min n4 6 := by
              have h4 := zke hs4 (by omega) (show k ≤ n4 by omega) c42
              omega
            refine lv_iload_n hx hb dX5_lays_99 rfl (lv_at hl 2 rfl) ?_
            exact zFG.iret hx hb hr hlocks hQ hw rfl dX5_lays_100 (by rw [show zm_lays bo so nn S fd 3 = (nI (zLy (nn 3) S k).2, (zLy (nn 3) S k).1, fd) from (by unfold zm_lays; rw [if_pos (by decide), show zc (3 : Int32) = 3 from rfl, if_neg c21, hs4, zml_of hn4, hke])]; exact ⟨rfl, rfl⟩)
          · have hk4 : k < n4 := zkn hs4 (by omega) (by omega) c42
            refine lv_iload hx hb dX5_lays_45 (lv_at hl 3 rfl) ?_
            refine lv_bipush (v := 6) hx hb dX5_lays_47 (by decide) ?_
            refine lv_icmp_ge (tgt := 99) hx hb dX5_lays_49 (by decide) (fun c49 => ?_) (fun c49 => ?_)
            · have hke : k = min n4 6 := by
                have h6 : k = 6 := zke (v := 6) rfl (by decide) (show k ≤ 6 by omega) c49
                omega
              refine lv_iload_n hx hb dX5_lays_99 rfl (lv_at hl 2 rfl) ?_
              exact zFG.iret hx hb hr hlocks hQ hw rfl dX5_lays_100 (by rw [show zm_lays bo so nn S fd 3 = (nI (zLy (nn 3) S k).2, (zLy (nn 3) S k).1, fd) from (by unfold zm_lays; rw [if_pos (by decide), show zc (3 : Int32) = 3 from rfl, if_neg c21, hs4, zml_of hn4, hke])]; exact ⟨rfl, rfl⟩)
            · have hk6 : k < 6 := zkn (v := 6) rfl (by omega) (by omega) c49
              refine lv_aload_n hx hb dX5_lays_52 rfl (lv_at hl 1 rfl) ?_
              refine gfX5_232 hx hb hown hts hK hw 38 rfl rfl dX5_lays_53 ?_
              refine lv_iload hx hb dX5_lays_56 (lv_at hl 3 rfl) ?_
              refine zlal hx hb hK hw 39 1 k rfl rfl rfl (by omega) (by decide) dX5_lays_58 ?_
              refine lv_lstore (lv' := [(5, .long ((nn 3) k)), (0, .ref (b 0)), (2, .ref (b 8)), (3, .int (nI (zLy (nn 3) S k).2)), (4, .int (nI k))]) hx hb dX5_lays_59 hl (by decide) rfl (fun ls hl => ?_)
              refine lv_lload hx hb dX5_lays_61 (lv_at hl 0 rfl) ?_
              refine lv_lconst (v := 0) hx hb dX5_lays_63 (by decide) ?_
              refine W.lcmp hx hb dX5_lays_64 ?_
              refine lv_if_lt (tgt := 93) hx hb dX5_lays_65 (by decide) (fun c65 => ?_) (fun c65 => ?_)
              · have c65 := (lg_cmp_lt _ _).mp c65
                have hly : zLy (nn 3) S (k + 1) = _ := zLy_f (fun h => absurd h.1 (Int64.not_le.mpr c65))
                have hl : lv_has ls 7 [(5, .long ((nn 3) k)), (0, .ref (b 0)), (2, .ref (b 8)), (3, .int (nI (zLy (nn 3) S (k + 1)).2)), (4, .int (nI k))] := by
                  rw [show nI (zLy (nn 3) S (k + 1)).2 = nI (zLy (nn 3) S k).2 from (by rw [hly])]; exact hl
                have hw : zHw x A s.heap (zHW x b t ((zLy (nn 3) S (k + 1)).1) l0 T l1 K l2 ik fd tb tq bo so nn) H locs := hw.re (by rw [hly])
                refine lv_iinc (v := nI (k + 1)) (lv' := [(4, .int (nI (k + 1))), (5, .long ((nn 3) k)), (0, .ref (b 0)), (2, .ref (b 8)), (3, .int (nI (zLy (nn 3) S (k + 1)).2))]) hx hb dX5_lays_93 hl (k := 4) rfl (nI_1 k) (by decide) rfl (fun ls hl => ?_)
                refine lv_goto (tgt := 36) hx hb dX5_lays_96 (by decide) ?_
                exact ih36 (k + 1) (by omega) (by omega) _ _ _ hw (lv_sub hl [2, 3, 4, 0] rfl)
              · have c65 := fun h => c65 ((lg_cmp_lt _ _).mpr h)
                refine lv_lload hx hb dX5_lays_68 (lv_at hl 0 rfl) ?_
                refine lv_ldc2 (v := 99) hx hb hown (hts _ ckX5_251) dX5_lays_70 ?_
                refine W.lcmp hx hb dX5_lays_73 ?_
                refine lv_if_gt (tgt := 93) hx hb dX5_lays_74 (by decide) (fun c74 => ?_) (fun c74 => ?_)
                · have c74 := (lg_cmp_gt _ _).mp c74
                  have hly : zLy (nn 3) S (k + 1) = _ := zLy_f (fun h => absurd h.2 (Int64.not_le.mpr c74))
                  have hl : lv_has ls 7 [(5, .long ((nn 3) k)), (0, .ref (b 0)), (2, .ref (b 8)), (3, .int (nI (zLy (nn 3) S (k + 1)).2)), (4, .int (nI k))] := by
                    rw [show nI (zLy (nn 3) S (k + 1)).2 = nI (zLy (nn 3) S k).2 from (by rw [hly])]; exact hl
                  have hw : zHw x A s.heap (zHW x b t ((zLy (nn 3) S (k + 1)).1) l0 T l1 K l2 ik fd tb tq bo so nn) H locs := hw.re (by rw [hly])
                  refine lv_iinc (v := nI (k + 1)) (lv' := [(4, .int (nI (k + 1))), (5, .long ((nn 3) k)), (0, .ref (b 0)), (2, .ref (b 8)), (3, .int (nI (zLy (nn 3) S (k + 1)).2))]) hx hb dX5_lays_93 hl (k := 4) rfl (nI_1 k) (by decide) rfl (fun ls hl => ?_)
                  refine lv_goto (tgt := 36) hx hb dX5_lays_96 (by decide) ?_
                  exact ih36 (k + 1) (by omega) (by omega) _ _ _ hw (lv_sub hl [2, 3, 4, 0] rfl)
                · have c74 := fun h => c74 ((lg_cmp_gt _ _).mpr h)
                  refine lv_aload_n hx hb dX5_lays_77 rfl (lv_at hl 1 rfl) ?_
                  refine gfX5_10 hx hb hown hts hK hw 0 rfl rfl dX5_lays_78 ?_
                  refine gfX5_67 hx hb hown hts hK hw 3 rfl rfl dX5_lays_81 ?_
                  refine lv_iload hx hb dX5_lays_84 (lv_at hl 4 rfl) ?_
                  refine lv_lload hx hb dX5_lays_86 (lv_at hl 0 rfl) ?_
                  refine lv_l2i hx hb dX5_lays_88 rfl ?_
                  refine zias hx hb hK hw 4 0 k rfl rfl rfl (by omega) (by decide) dX5_lays_89 (fun H locs hw => ?_)
                  have hw : zHw x A s.heap (zHW x b t (zU ((zLy (nn 3) S k).1) 1 k (((nn 3) k).toInt32)) l0 T l1 K l2 ik fd tb tq bo so nn) H locs := hw
                  refine lv_iinc (v := nI ((zLy (nn 3) S k).2 + 1)) (lv' := [(3, .int (nI ((zLy (nn 3) S k).2 + 1))), (5, .long ((nn 3) k)), (0, .ref (b 0)), (2, .ref (b 8)), (4, .int (nI k))]) hx hb dX5_lays_90 hl (k := 3) rfl (nI_1 ((zLy (nn 3) S k).2)) (by decide) rfl (fun ls hl => ?_)
                  have hly : zLy (nn 3) S (k + 1) = _ := zLy_t ⟨Int64.not_lt.mp c65, Int64.not_lt.mp c74⟩
                  have hl : lv_has ls 7 [(3, .int (nI (zLy (nn 3) S (k + 1)).2)), (5, .long ((nn 3) k)), (0, .ref (b 0)), (2, .ref (b 8)), (4, .int (nI k))] := by
                    rw [show nI (zLy (nn 3) S (k + 1)).2 = nI ((zLy (nn 3) S k).2 + 1) from (by rw [hly])]; exact hl
                  have hw : zHw x A s.heap (zHW x b t ((zLy (nn 3) S (k + 1)).1) l0 T l1 K l2 ik fd tb tq bo so nn) H locs := hw.re (by rw [hly])
                  refine lv_iinc (v := nI (k + 1)) (lv' := [(4, .int (nI (k + 1))), (3, .int (nI (zLy (nn 3) S (k + 1)).2)), (5, .long ((nn 3) k)), (0, .ref (b 0)), (2, .ref (b 8))]) hx hb dX5_lays_93 hl (k := 4) rfl (nI_1 k) (by decide) rfl (fun ls hl => ?_)
                  refine lv_goto (tgt := 36) hx hb dX5_lays_96 (by decide) ?_
                  exact ih36 (k + 1) (by omega) (by omega) _ _ _ hw (lv_sub hl [3, 4, 1, 0] rfl)
      exact loop36 (_ + 1) 0 (Nat.lt_succ_self _) (Nat.zero_le _) _ _ _ hw (lv_sub hl [3, 2, 1, 0] rfl)
    · have c21 := zb_n0.mp c21
      refine lv_aload_n hx hb dX5_lays_24 rfl (lv_at hl 1 rfl) ?_
      refine lv_ldc (v := (-1000000006)) hx hb hown (hts _ ckX5_231) dX5_lays_25 ?_
      refine zcVwi (r := (-1000000006)) hx hb hml hown hts hl.1 hK hE hA lkX5_52 (c_X5_found x b t S l0 T l1 K l2 ik fd tb tq bo so nn (-1000000006) 5 (by decide) (by decide)) ⟨Nat.le_of_ble_eq_true rfl, Nat.le_of_ble_eq_true rfl⟩ ⟨Nat.zero_le _, Nat.zero_le _⟩ hw 0 3 rfl rfl rfl rfl (Nat.le_of_ble_eq_true rfl) dX5_lays_27 (fun H locs hw => ?_)
      have hw : zHw x A s.heap (zHW x b t S l0 T l1 K l2 ik (upd fd 5 (fd 5 + 1)) tb tq bo so nn) H locs := hw
      exact zFG.iret hx hb hr hlocks hQ hw rfl dX5_lays_30 (by rw [show zm_lays bo so nn S fd 3 = ((-1000000006), S, zFd fd 5) from (by unfold zm_lays; rw [if_pos (by decide), show zc (3 : Int32) = 3 from rfl, if_pos c21])]; exact ⟨rfl, rfl⟩)
  · refine lv_aload_n hx hb dX5_lays_0 rfl (lv_at hl 0 rfl) ?_
    refine lv_iload_n hx hb dX5_lays_1 rfl (lv_at hl 1 rfl) ?_
    refine zcVwa hx hb hml hown hts hl.1 hK hE hA lkX5_219 (c_X5_sheetAt_no x b t S l0 T l1 K l2 ik fd tb tq bo so nn y hno) ⟨Nat.le_of_ble_eq_true rfl, Nat.le_of_ble_eq_true rfl⟩ ⟨Nat.zero_le _, Nat.zero_le _⟩ hw 0 3 rfl rfl rfl rfl (Nat.le_of_ble_eq_true rfl) dX5_lays_2 (fun H locs hw => ?_)
    have hw : zHw x A s.heap (zHW x b t S l0 T l1 K l2 ik fd tb tq bo so nn) H locs := hw
    refine lv_astore_nN (lv' := [(2, Value.null), (0, .ref (b 0)), (1, .int y)]) hx hb dX5_lays_5 rfl hl (by decide) rfl (fun ls hl => ?_)
    refine lv_aload_nN hx hb dX5_lays_6 rfl (lv_at hl 0 rfl) ?_
    refine lv_ifnonnullN hx hb dX5_lays_7 ?_
    refine lv_aload_n hx hb dX5_lays_10 rfl (lv_at hl 1 rfl) ?_
    refine lv_ldc (v := (-1000000001)) hx hb hown (hts _ ckX5_51) dX5_lays_11 ?_
    refine zcVwi (r := (-1000000001)) hx hb hml hown hts hl.1 hK hE hA lkX5_52 (c_X5_found x b t S l0 T l1 K l2 ik fd tb tq bo so nn (-1000000001) 0 (by decide) (by decide)) ⟨Nat.le_of_ble_eq_true rfl, Nat.le_of_ble_eq_true rfl⟩ ⟨Nat.zero_le _, Nat.zero_le _⟩ hw 0 3 rfl rfl rfl rfl (Nat.le_of_ble_eq_true rfl) dX5_lays_13 (fun H locs hw => ?_)
    have hw : zHw x A s.heap (zHW x b t S l0 T l1 K l2 ik (upd fd 0 (fd 0 + 1)) tb tq bo so nn) H locs := hw
    exact zFG.iret hx hb hr hlocks hQ hw rfl dX5_lays_16 (by rw [show zm_lays bo so nn S fd y = ((-1000000001), S, zFd fd 0) from (by unfold zm_lays; rw [if_neg hno])]; exact ⟨rfl, rfl⟩)

set_option maxHeartbeats 4000000 in
set_option maxRecDepth 100000 in
theorem c_X5_book (x : zX) (b : Nat → Nat) (t : Nat → Nat → Nat) (S : zT) (l0 : Int32) (T : zT) (l1 : Int32) (K : zT) (l2 ik : Int32) (fd tb tq bo so : Nat → Int32) (nn : Nat → Nat → Int64) (y h : Int32) (hI : zInv S) (hS : zSI bo so) : zFG x mX5_book 5 [.ref (b 0), .int y, .int h] (zHW x b t S l0 T l1 K l2 ik fd tb tq bo so nn) (fun v' u' => v' = some (.int (zm_book bo so nn S fd y h).1) ∧ ∃ (T2 : zT) (lj : Int32), u' = zHW x b t S l0 T2 lj K l2 ik (zm_book bo so nn S fd y h).2.2 tb tq bo so (zm_book bo so nn S fd y h).2.1) := by
  refine zFG.start RX5 cX5_book 6 (some .int) rfl rfl (by decide +kernel) (Nat.le_of_ble_eq_true rfl) ?_
  intro p e s m ar below meth c ls A Q hx hb hr hml hown hts hlocks hK hE hA hQ hl hw
  have hl : lv_has ls 6 [(0, .ref (b 0)), (1, .int y), (2, .int h)] := hl
  have hw : zHw x A s.heap (zHW x b t S l0 T l1 K l2 ik fd tb tq bo so nn) s.heap [] := hw
  rcases zcase4 y with rfl | rfl | rfl | rfl | hno
  · refine lv_aload_n hx hb dX5_book_0 rfl (lv_at hl 0 rfl) ?_
    refine lv_iload_n hx hb dX5_book_1 rfl (lv_at hl 1 rfl) ?_
    refine zcVwa hx hb hml hown hts hl.1 hK hE hA lkX5_219 (c_X5_sheetAt_0 x b t S l0 T l1 K l2 ik fd tb tq bo so nn) ⟨Nat.le_of_ble_eq_true rfl, Nat.le_of_ble_eq_true rfl⟩ ⟨Nat.zero_le _, Nat.zero_le _⟩ hw 0 3 rfl rfl rfl rfl (Nat.le_of_ble_eq_true rfl) dX5_book_2 (fun H locs hw => ?_)
    have hw : zHw x A s.heap (zHW x b t S l0 T l1 K l2 ik fd tb tq bo so nn) H locs := hw
    refine lv_astore_n (lv' := [(3, .ref (b 5)), (0, .ref (b 0)), (1, .int 0), (2, .int h)]) hx hb dX5_book_5 rfl hl (by decide) rfl (fun ls hl => ?_)
    refine lv_aload_n hx hb dX5_book_6 rfl (lv_at hl 0 rfl) ?_
    refine lv_ifnonnull (tgt := 17) hx hb dX5_book_7 (by decide) ?_
    refine lv_aload_n hx hb dX5_book_17 rfl (lv_at hl 0 rfl) ?_
    refine zcVmi (r := zb (bo 0 = 0)) (C1 := (zOW x b t ik fd ++ (zTW x (t 0) S l0 ++ (zTW x (t 1) T l1 ++ (zTW x (t 2) K l2 ++ zPW x b tb tq))))) (C2 := (zSH x (b 6) (b 10) (bo 1) (so 1) (nn 1) ++ (zSH x (b 7) (b 11) (bo 2) (so 2) (nn 2) ++ zSH x (b 8) (b 12) (bo 3) (so 3) (nn 3)))) hx hb hml hown hts hl.1 hK hE hA lkX5_228 (c_X1_isMissing x (b 5) (b 9) (bo 0) (so 0) (nn 0) ) ⟨Nat.le_of_ble_eq_true rfl, Nat.le_of_ble_eq_true rfl⟩ ⟨Nat.zero_le _, Nat.zero_le _⟩ hw 0 0 rfl rfl rfl rfl (Nat.le_of_ble_eq_true rfl) dX5_book_18 (fun H locs hw => ?_)
    have hw : zHw x A s.heap (zHW x b t S l0 T l1 K l2 ik fd tb tq bo so nn) H locs := hw
    refine lv_if_eq (tgt := 31) hx hb dX5_book_21 (by decide) (fun c21 => ?_) (fun c21 => ?_)
    · have c21 := zb_0.mp c21
      refine lv_aload_n hx hb dX5_book_31 rfl (lv_at hl 1 rfl) ?_
      refine gfX5_10 hx hb hown hts hK hw 0 rfl rfl dX5_book_32 ?_
      refine lv_iload_n hx hb dX5_book_35 rfl (lv_at hl 3 rfl) ?_
      refine zcVmi (r := zb (0 ≤ h ∧ h < S 0 0)) (C1 := (zOW x b t ik fd)) (C2 := (zTW x (t 1) T l1 ++ (zTW x (t 2) K l2 ++ (zPW x b tb tq ++ (zSH x (b 5) (b 9) (bo 0) (so 0) (nn 0) ++ (zSH x (b 6) (b 10) (bo 1) (so 1) (nn 1) ++ (zSH x (b 7) (b 11) (bo 2) (so 2) (nn 2) ++ zSH x (b 8) (b 12) (bo 3) (so 3) (nn 3)))))))) hx hb hml hown hts hl.1 hK hE hA lkX5_95 (c_X3_has x (t 0) S l0 h) ⟨Nat.le_of_ble_eq_true rfl, Nat.le_of_ble_eq_true rfl⟩ ⟨Nat.zero_le _, Nat.zero_le _⟩ hw 0 2 rfl rfl rfl rfl (Nat.le_of_ble_eq_true rfl) dX5_book_36 (fun H locs hw => ?_)
      have hw : zHw x A s.heap (zHW x b t S l0 T l1 K l2 ik fd tb tq bo so nn) H locs := hw
      refine lv_if_ne (tgt := 49) hx hb dX5_book_39 (by decide) (fun c39 => ?_) (fun c39 => ?_)
      · have c39 := zb_n0.mp c39
        obtain ⟨-, n4, hn4, hs4⟩ := hS 0 (by decide)
        obtain ⟨i0, hi08, hi0N, rfl⟩ := zH_nat hI c39
        refine lv_aload_n hx hb dX5_book_49 rfl (lv_at hl 1 rfl) ?_
        refine zcVwa hx hb hml hown hts hl.1 hK hE hA lkX5_171 (c_X5_asItIs x b t S l0 T l1 K l2 ik fd tb tq bo so nn) ⟨Nat.le_of_ble_eq_true rfl, Nat.le_of_ble_eq_true rfl⟩ ⟨Nat.zero_le _, Nat.zero_le _⟩ hw 0 3 rfl rfl rfl rfl (Nat.le_of_ble_eq_true rfl) dX5_book_50 (fun H locs hw => ?_)
        have hw : zHw x A s.heap (zHW x b t S l0 S 1000 K l2 ik fd tb tq bo so nn) H locs := hw
        refine lv_astore (lv' := [(4, .ref ((t 1) 0)), (3, .ref (b 5)), (0, .ref (b 0)), (1, .int 0), (2, .int (nI i0))]) hx hb dX5_book_53 hl (by decide) rfl (fun ls hl => ?_)
        refine lv_iconst (v := 0) hx hb dX5_book_55 (by decide) ?_
        refine lv_istore (lv' := [(5, .int 0), (4, .ref ((t 1) 0)), (3, .ref (b 5)), (0, .ref (b 0)), (1, .int 0), (2, .int (nI i0))]) hx hb dX5_book_56 hl (by decide) rfl (fun ls hl => ?_)
        have loop58 : ∀ (dd : Nat) (k : Nat) (lj : Int32), n4 - k < dd → (hk : k ≤ n4) → ∀ (H : Heap) (locs : List Loc) (ls : Array Slot), zHw x A s.heap (zHW x b t S l0 ((zBk (bo 0) i0 0 k nn S).2) lj K l2 ik fd tb tq bo so ((zBk (bo 0) i0 0 k nn S).1)) H locs → lv_has ls 6 [(0, .ref (b 0)), (2, .int (nI i0)), (3, .ref (b 5)), (4, .ref ((t 1) 0)), (5, .int (nI k))] → W p x.1 e (zRM 5) s m ar below meth c H locs 0 0 Q (F0 m 58 ls []) := by
          intro dd
          induction dd with
          | zero => intro k lj hm; exact absurd hm (Nat.not_lt_zero _)
          | succ dd ih58 =>
            intro k lj hm hk H locs ls hw hl
            refine lv_iload hx hb dX5_book_58 (lv_at hl 4 rfl) ?_
            refine lv_aload_n hx hb dX5_book_60 rfl (lv_at hl 2 rfl) ?_
            refine gfX5_227 hx hb hown hts hK hw 32 rfl rfl dX5_book_61 ?_
            refine lv_icmp_ge (tgt := 92) hx hb dX5_book_64 (by decide) (fun c64 => ?_) (fun c64 => ?_)
            · have hke : k = n4 := zke hs4 (by omega) hk c64
              refine lv_aload_n hx hb dX5_book_92 rfl (lv_at hl 2 rfl) ?_
              refine gfX5_227 hx hb hown hts hK hw 32 rfl rfl dX5_book_93 ?_
              exact zFG.iret hx hb hr hlocks hQ hw rfl dX5_book_96 (by rw [show zm_book bo so nn S fd 0 (nI i0) = (nI n4, (zBk (bo 0) i0 0 k nn S).1, fd) from (by unfold zm_book; rw [if_pos (by decide), show zc (0 : Int32) = 0 from rfl, if_neg c21, if_pos c39, zc_nI (show i0 < 2147483648 by omega), hs4, zc_nI (show n4 < 2147483648 by omega), hke])]; exact ⟨zsi (by rw [hs4]), _, _, rfl⟩)
            · have hk4 : k < n4 := zkn hs4 (by omega) hk c64
              refine lv_aload_n hx hb dX5_book_67 rfl (lv_at hl 2 rfl) ?_
              refine lv_iload hx hb dX5_book_68 (lv_at hl 4 rfl) ?_
              refine lv_aload hx hb dX5_book_70 (lv_at hl 3 rfl) ?_
              refine gfX5_124 hx hb hown hts hK hw 12 rfl rfl dX5_book_72 ?_
              refine lv_iload_n hx hb dX5_book_75 rfl (lv_at hl 1 rfl) ?_
              refine zial hx hb hK hw 17 0 i0 rfl rfl rfl (by omega) (by decide) dX5_book_76 ?_
              refine lv_i2l hx hb dX5_book_77 rfl ?_
              refine zcVmv (C1 := (zOW x b t ik fd ++ (zTW x (t 0) S l0 ++ (zTW x (t 1) ((zBk (bo 0) i0 0 k nn S).2) lj ++ (zTW x (t 2) K l2 ++ zPW x b tb tq))))) (C2 := (zSH x (b 6) (b 10) (bo 1) (so 1) (((zBk (bo 0) i0 0 k nn S).1) 1) ++ (zSH x (b 7) (b 11) (bo 2) (so 2) (((zBk (bo 0) i0 0 k nn S).1) 2) ++ zSH x (b 8) (b 12) (bo 3) (so 3) (((zBk (bo 0) i0 0 k nn S).1) 3)))) hx hb hml hown hts hl.1 hK hE hA lkX5_236 (c_X1_put x (b 5) (b 9) (bo 0) (so 0) (((zBk (bo 0) i0 0 k nn S).1) 0) k (((((zBk (bo 0) i0 0 k nn S).2) 5) i0).toInt64) (by omega) (by rw [hs4]; exact nI_lt hk4 (by omega))) ⟨Nat.le_of_ble_eq_true rfl, Nat.le_of_ble_eq_true rfl⟩ ⟨Nat.zero_le _, Nat.zero_le _⟩ hw 0 0 rfl rfl rfl rfl (Nat.le_of_ble_eq_true rfl) dX5_book_78 (fun H locs hw => ?_)
              have hw : zHw x A s.heap (zHW x b t S l0 ((zBk (bo 0) i0 0 k nn S).2) lj K l2 ik fd tb tq bo so (zUL ((zBk (bo 0) i0 0 k nn S).1) 0 k (zna (bo 0) (((((zBk (bo 0) i0 0 k nn S).2) 5) i0).toInt64)))) H locs := hw
              refine lv_aload hx hb dX5_book_81 (lv_at hl 3 rfl) ?_
              refine zcVmv (C1 := (zOW x b t ik fd ++ zTW x (t 0) S l0)) (C2 := (zTW x (t 2) K l2 ++ (zPW x b tb tq ++ (zSH x (b 5) (b 9) (bo 0) (so 0) ((zUL ((zBk (bo 0) i0 0 k nn S).1) 0 k (zna (bo 0) (((((zBk (bo 0) i0 0 k nn S).2) 5) i0).toInt64))) 0) ++ (zSH x (b 6) (b 10) (bo 1) (so 1) ((zUL ((zBk (bo 0) i0 0 k nn S).1) 0 k (zna (bo 0) (((((zBk (bo 0) i0 0 k nn S).2) 5) i0).toInt64))) 1) ++ (zSH x (b 7) (b 11) (bo 2) (so 2) ((zUL ((zBk (bo 0) i0 0 k nn S).1) 0 k (zna (bo 0) (((((zBk (bo 0) i0 0 k nn S).2) 5) i0).toInt64))) 2) ++ zSH x (b 8) (b 12) (bo 3) (so 3) ((zUL ((zBk (bo 0) i0 0 k nn S).1) 0 k (zna (bo 0) (((((zBk (bo 0) i0 0 k nn S).2) 5) i0).toInt64))) 3))))))) hx hb hml hown hts hl.1 hK hE hA lkX5_253 (c_X3_goWeek x (t 1) ((zBk (bo 0) i0 0 k nn S).2) lj (zBk_inv (bo 0) i0 0 k nn hI)) ⟨Nat.le_of_ble_eq_true rfl, Nat.le_of_ble_eq_true rfl⟩ ⟨Nat.zero_le _, Nat.zero_le _⟩ hw 0 2 rfl rfl rfl rfl (Nat.le_of_ble_eq_true rfl) dX5_book_83 (fun H locs hw => ?_)
              have hw : zHw x A s.heap (zHW x b t S l0 (zWk ((zBk (bo 0) i0 0 k nn S).2)) (zMl (zMn ((zBk (bo 0) i0 0 k nn S).2)) ((zBk (bo 0) i0 0 k nn S).2) lj) K l2 ik fd tb tq bo so (zUL ((zBk (bo 0) i0 0 k nn S).1) 0 k (zna (bo 0) (((((zBk (bo 0) i0 0 k nn S).2) 5) i0).toInt64)))) H locs := hw
              have hw : zHw x A s.heap (zHW x b t S l0 ((zBk (bo 0) i0 0 (k + 1) nn S).2) (zMl (zMn ((zBk (bo 0) i0 0 k nn S).2)) ((zBk (bo 0) i0 0 k nn S).2) lj) K l2 ik fd tb tq bo so ((zBk (bo 0) i0 0 (k + 1) nn S).1)) H locs := hw
              refine lv_iinc (v := nI (k + 1)) (lv' := [(5, .int (nI (k + 1))), (0, .ref (b 0)), (2, .int (nI i0)), (3, .ref (b 5)), (4, .ref ((t 1) 0))]) hx hb dX5_book_86 hl (k := 4) rfl (nI_1 k) (by decide) rfl (fun ls hl => ?_)
              refine lv_goto (tgt := 58) hx hb dX5_book_89 (by decide) ?_
              exact ih58 (k + 1) (zMl (zMn ((zBk (bo 0) i0 0 k nn S).2)) ((zBk (bo 0) i0 0 k nn S).2) lj) (by omega) (by omega) _ _ _ hw (lv_sub hl [1, 2, 3, 4, 0] rfl)
        exact loop58 (_ + 1) 0 1000 (Nat.lt_succ_self _) (Nat.zero_le _) _ _ _ hw (lv_sub hl [3, 5, 2, 1, 0] rfl)
      · have c39 := zb_0.mp c39
        refine lv_aload_n hx hb dX5_book_42 rfl (lv_at hl 1 rfl) ?_
        refine lv_ldc (v := (-1000000001)) hx hb hown (hts _ ckX5_51) dX5_book_43 ?_
        refine zcVwi (r := (-1000000001)) hx hb hml hown hts hl.1 hK hE hA lkX5_52 (c_X5_found x b t S l0 T l1 K l2 ik fd tb tq bo so nn (-1000000001) 0 (by decide) (by decide)) ⟨Nat.le_of_ble_eq_true rfl, Nat.le_of_ble_eq_true rfl⟩ ⟨Nat.zero_le _, Nat.zero_le _⟩ hw 0 3 rfl rfl rfl rfl (Nat.le_of_ble_eq_true rfl) dX5_book_45 (fun H locs hw => ?_)
        have hw : zHw x A s.heap (zHW x b t S l0 T l1 K l2 ik (upd fd 0 (fd 0 + 1)) tb tq bo so nn) H locs := hw
        exact zFG.iret hx hb hr hlocks hQ hw rfl dX5_book_48 (by rw [show zm_book bo so nn S fd 0 h = ((-1000000001), nn, zFd fd 0) from (by unfold zm_book; rw [if_pos (by decide), show zc (0 : Int32) = 0 from rfl, if_neg c21, if_neg c39])]; exact ⟨rfl, _, _, rfl⟩)
    · have c21 := zb_n0.mp c21
      refine lv_aload_n hx hb dX5_book_24 rfl (lv_at hl 1 rfl) ?_
      refine lv_ldc (v := (-1000000006)) hx hb hown (hts _ ckX5_231) dX5_book_25 ?_
      refine zcVwi (r := (-1000000006)) hx hb hml hown hts hl.1 hK hE hA lkX5_52 (c_X5_found x b t S l0 T l1 K l2 ik fd tb tq bo so nn (-1000000006) 5 (by decide) (by decide)) ⟨Nat.le_of_ble_eq_true rfl, Nat.le_of_ble_eq_true rfl⟩ ⟨Nat.zero_le _, Nat.zero_le _⟩ hw 0 3 rfl rfl rfl rfl (Nat.le_of_ble_eq_true rfl) dX5_book_27 (fun H locs hw => ?_)
      have hw : zHw x A s.heap (zHW x b t S l0 T l1 K l2 ik (upd fd 5 (fd 5 + 1)) tb tq bo so nn) H locs := hw
      exact zFG.iret hx hb hr hlocks hQ hw rfl dX5_book_30 (by rw [show zm_book bo so nn S fd 0 h = ((-1000000006), nn, zFd fd 5) from (by unfold zm_book; rw [if_pos (by decide), show zc (0 : Int32) = 0 from rfl, if_pos c21])]; exact ⟨rfl, _, _, rfl⟩)
  · refine lv_aload_n hx hb dX5_book_0 rfl (lv_at hl 0 rfl) ?_
    refine lv_iload_n hx hb dX5_book_1 rfl (lv_at hl 1 rfl) ?_
    refine zcVwa hx hb hml hown hts hl.1 hK hE hA lkX5_219 (c_X5_sheetAt_1 x b t S l0 T l1 K l2 ik fd tb tq bo so nn) ⟨Nat.le_of_ble_eq_true rfl, Nat.le_of_ble_eq_true rfl⟩ ⟨Nat.zero_le _, Nat.zero_le _⟩ hw 0 3 rfl rfl rfl rfl (Nat.le_of_ble_eq_true rfl) dX5_book_2 (fun H locs hw => ?_)
    have hw : zHw x A s.heap (zHW x b t S l0 T l1 K l2 ik fd tb tq bo so nn) H locs := hw
    refine lv_astore_n (lv' := [(3, .ref (b 6)), (0, .ref (b 0)), (1, .int 1), (2, .int h)]) hx hb dX5_book_5 rfl hl (by decide) rfl (fun ls hl => ?_)
    refine lv_aload_n hx hb dX5_book_6 rfl (lv_at hl 0 rfl) ?_
    refine lv_ifnonnull (tgt := 17) hx hb dX5_book_7 (by decide) ?_
    refine lv_aload_n hx hb dX5_book_17 rfl (lv_at hl 0 rfl) ?_
    refine zcVmi (r := zb (bo 1 = 0)) (C1 := (zOW x b t ik fd ++ (zTW x (t 0) S l0 ++ (zTW x (t 1) T l1 ++ (zTW x (t 2) K l2 ++ (zPW x b tb tq ++ zSH x (b 5) (b 9) (bo 0) (so 0) (nn 0))))))) (C2 := (zSH x (b 7) (b 11) (bo 2) (so 2) (nn 2) ++ zSH x (b 8) (b 12) (bo 3) (so 3) (nn 3))) hx hb hml hown hts hl.1 hK hE hA lkX5_228 (c_X1_isMissing x (b 6) (b 10) (bo 1) (so 1) (nn 1) ) ⟨Nat.le_of_ble_eq_true rfl, Nat.le_of_ble_eq_true rfl⟩ ⟨Nat.zero_le _, Nat.zero_le _⟩ hw 0 0 rfl rfl rfl rfl (Nat.le_of_ble_eq_true rfl) dX5_book_18 (fun H locs hw => ?_)
    have hw : zHw x A s.heap (zHW x b t S l0 T l1 K l2 ik fd tb tq bo so nn) H locs := hw
    refine lv_if_eq (tgt := 31) hx hb dX5_book_21 (by decide) (fun c21 => ?_) (fun c21 => ?_)
    · have c21 := zb_0.mp c21
      refine lv_aload_n hx hb dX5_book_31 rfl (lv_at hl 1 rfl) ?_
      refine gfX5_10 hx hb hown hts hK hw 0 rfl rfl dX5_book_32 ?_
      refine lv_iload_n hx hb dX5_book_35 rfl (lv_at hl 3 rfl) ?_
      refine zcVmi (r := zb (0 ≤ h ∧ h < S 0 0)) (C1 := (zOW x b t ik fd)) (C2 := (zTW x (t 1) T l1 ++ (zTW x (t 2) K l2 ++ (zPW x b tb tq ++ (zSH x (b 5) (b 9) (bo 0) (so 0) (nn 0) ++ (zSH x (b 6) (b 10) (bo 1) (so 1) (nn 1) ++ (zSH x (b 7) (b 11) (bo 2) (so 2) (nn 2) ++ zSH x (b 8) (b 12) (bo 3) (so 3) (nn 3)))))))) hx hb hml hown hts hl.1 hK hE hA lkX5_95 (c_X3_has x (t 0) S l0 h) ⟨Nat.le_of_ble_eq_true rfl, Nat.le_of_ble_eq_true rfl⟩ ⟨Nat.zero_le _, Nat.zero_le _⟩ hw 0 2 rfl rfl rfl rfl (Nat.le_of_ble_eq_true rfl) dX5_book_36 (fun H locs hw => ?_)
      have hw : zHw x A s.heap (zHW x b t S l0 T l1 K l2 ik fd tb tq bo so nn) H locs := hw
      refine lv_if_ne (tgt := 49) hx hb dX5_book_39 (by decide) (fun c39 => ?_) (fun c39 => ?_)
      · have c39 := zb_n0.mp c39
        obtain ⟨-, n4, hn4, hs4⟩ := hS 1 (by decide)
        obtain ⟨i0, hi08, hi0N, rfl⟩ := zH_nat hI c39
        refine lv_aload_n hx hb dX5_book_49 rfl (lv_at hl 1 rfl) ?_
        refine zcVwa hx hb hml hown hts hl.1 hK hE hA lkX5_171 (c_X5_asItIs x b t S l0 T l1 K l2 ik fd tb tq bo so nn) ⟨Nat.le_of_ble_eq_true rfl, Nat.le_of_ble_eq_true rfl⟩ ⟨Nat.zero_le _, Nat.zero_le _⟩ hw 0 3 rfl rfl rfl rfl (Nat.le_of_ble_eq_true rfl) dX5_book_50 (fun H locs hw => ?_)
        have hw : zHw x A s.heap (zHW x b t S l0 S 1000 K l2 ik fd tb tq bo so nn) H locs := hw
        refine lv_astore (lv' := [(4, .ref ((t 1) 0)), (3, .ref (b 6)), (0, .ref (b 0)), (1, .int 1), (2, .int (nI i0))]) hx hb dX5_book_53 hl (by decide) rfl (fun ls hl => ?_)
        refine lv_iconst (v := 0) hx hb dX5_book_55 (by decide) ?_
        refine lv_istore (lv' := [(5, .int 0), (4, .ref ((t 1) 0)), (3, .ref (b 6)), (0, .ref (b 0)), (1, .int 1), (2, .int (nI i0))]) hx hb dX5_book_56 hl (by decide) rfl (fun ls hl => ?_)
        have loop58 : ∀ (dd : Nat) (k : Nat) (lj : Int32), n4 - k < dd → (hk : k ≤ n4) → ∀ (H : Heap) (locs : List Loc) (ls : Array Slot), zHw x A s.heap (zHW x b t S l0 ((zBk (bo 1) i0 1 k nn S).2) lj K l2 ik fd tb tq bo so ((zBk (bo 1) i0 1 k nn S).1)) H locs → lv_has ls 6 [(0, .ref (b 0)), (2, .int (nI i0)), (3, .ref (b 6)), (4, .ref ((t 1) 0)), (5, .int (nI k))] → W p x.1 e (zRM 5) s m ar below meth c H locs 0 0 Q (F0 m 58 ls []) := by
          intro dd
          induction dd with
          | zero => intro k lj hm; exact absurd hm (Nat.not_lt_zero _)
          | succ dd ih58 =>
            intro k lj hm hk H locs ls hw hl
            refine lv_iload hx hb dX5_book_58 (lv_at hl 4 rfl) ?_
            refine lv_aload_n hx hb dX5_book_60 rfl (lv_at hl 2 rfl) ?_
            refine gfX5_227 hx hb hown hts hK hw 34 rfl rfl dX5_book_61 ?_
            refine lv_icmp_ge (tgt := 92) hx hb dX5_book_64 (by decide) (fun c64 => ?_) (fun c64 => ?_)
            · have hke : k = n4 := zke hs4 (by omega) hk c64
              refine lv_aload_n hx hb dX5_book_92 rfl (lv_at hl 2 rfl) ?_
              refine gfX5_227 hx hb hown hts hK hw 34 rfl rfl dX5_book_93 ?_
              exact zFG.iret hx hb hr hlocks hQ hw rfl dX5_book_96 (by rw [show zm_book bo so nn S fd 1 (nI i0) = (nI n4, (zBk (bo 1) i0 1 k nn S).1, fd) from (by unfold zm_book; rw [if_pos (by decide), show zc (1 : Int32) = 1 from rfl, if_neg c21, if_pos c39, zc_nI (show i0 < 2147483648 by omega), hs4, zc_nI (show n4 < 2147483648 by omega), hke])]; exact ⟨zsi (by rw [hs4]), _, _, rfl⟩)
            · have hk4 : k < n4 := zkn hs4 (by omega) hk c64
              refine lv_aload_n hx hb dX5_book_67 rfl (lv_at hl 2 rfl) ?_
              refine lv_iload hx hb dX5_book_68 (lv_at hl 4 rfl) ?_
              refine lv_aload hx hb dX5_book_70 (lv_at hl 3 rfl) ?_
              refine gfX5_124 hx hb hown hts hK hw 12 rfl rfl dX5_book_72 ?_
              refine lv_iload_n hx hb dX5_book_75 rfl (lv_at hl 1 rfl) ?_
              refine zial hx hb hK hw 17 0 i0 rfl rfl rfl (by omega) (by decide) dX5_book_76 ?_
              refine lv_i2l hx hb dX5_book_77 rfl ?_
              refine zcVmv (C1 := (zOW x b t ik fd ++ (zTW x (t 0) S l0 ++ (zTW x (t 1) ((zBk (bo 1) i0 1 k nn S).2) lj ++ (zTW x (t 2) K l2 ++ (zPW x b tb tq ++ zSH x (b 5) (b 9) (bo 0) (so 0) (((zBk (bo 1) i0 1 k nn S).1) 0))))))) (C2 := (zSH x (b 7) (b 11) (bo 2) (so 2) (((zBk (bo 1) i0 1 k nn S).1) 2) ++ zSH x (b 8) (b 12) (bo 3) (so 3) (((zBk (bo 1) i0 1 k nn S).1) 3))) hx hb hml hown hts hl.1 hK hE hA lkX5_236 (c_X1_put x (b 6) (b 10) (bo 1) (so 1) (((zBk (bo 1) i0 1 k nn S).1) 1) k (((((zBk (bo 1) i0 1 k nn S).2) 5) i0).toInt64) (by omega) (by rw [hs4]; exact nI_lt hk4 (by omega))) ⟨Nat.le_of_ble_eq_true rfl, Nat.le_of_ble_eq_true rfl⟩ ⟨Nat.zero_le _, Nat.zero_le _⟩ hw 0 0 rfl rfl rfl rfl (Nat.le_of_ble_eq_true rfl) dX5_book_78 (fun H locs hw => ?_)
              have hw : zHw x A s.heap (zHW x b t S l0 ((zBk (bo 1) i0 1 k nn S).2) lj K l2 ik fd tb tq bo so (zUL ((zBk (bo 1) i0 1 k nn S).1) 1 k (zna (bo 1) (((((zBk (bo 1) i0 1 k nn S).2) 5) i0).toInt64)))) H locs := hw
              refine lv_aload hx hb dX5_book_81 (lv_at hl 3 rfl) ?_
              refine zcVmv (C1 := (zOW x b t ik fd ++ zTW x (t 0) S l0)) (C2 := (zTW x (t 2) K l2 ++ (zPW x b tb tq ++ (zSH x (b 5) (b 9) (bo 0) (so 0) ((zUL ((zBk (bo 1) i0 1 k nn S).1) 1 k (zna (bo 1) (((((zBk (bo 1) i0 1 k nn S).2) 5) i0).toInt64))) 0) ++ (zSH x (b 6) (b 10) (bo 1) (so 1) ((zUL ((zBk (bo 1) i0 1 k nn S).1) 1 k (zna (bo 1) (((((zBk (bo 1) i0 1 k nn S).2) 5) i0).toInt64))) 1) ++ (zSH x (b 7) (b 11) (bo 2) (so 2) ((zUL ((zBk (bo 1) i0 1 k nn S).1) 1 k (zna (bo 1) (((((zBk (bo 1) i0 1 k nn S).2) 5) i0).toInt64))) 2) ++ zSH x (b 8) (b 12) (bo 3) (so 3) ((zUL ((zBk (bo 1) i0 1 k nn S).1) 1 k (zna (bo 1) (((((zBk (bo 1) i0 1 k nn S).2) 5) i0).toInt64))) 3))))))) hx hb hml hown hts hl.1 hK hE hA lkX5_253 (c_X3_goWeek x (t 1) ((zBk (bo 1) i0 1 k nn S).2) lj (zBk_inv (bo 1) i0 1 k nn hI)) ⟨Nat.le_of_ble_eq_true rfl, Nat.le_of_ble_eq_true rfl⟩ ⟨Nat.zero_le _, Nat.zero_le _⟩ hw 0 2 rfl rfl rfl rfl (Nat.le_of_ble_eq_true rfl) dX5_book_83 (fun H locs hw => ?_)
              have hw : zHw x A s.heap (zHW x b t S l0 (zWk ((zBk (bo 1) i0 1 k nn S).2)) (zMl (zMn ((zBk (bo 1) i0 1 k nn S).2)) ((zBk (bo 1) i0 1 k nn S).2) lj) K l2 ik fd tb tq bo so (zUL ((zBk (bo 1) i0 1 k nn S).1) 1 k (zna (bo 1) (((((zBk (bo 1) i0 1 k nn S).2) 5) i0).toInt64)))) H locs := hw
              have hw : zHw x A s.heap (zHW x b t S l0 ((zBk (bo 1) i0 1 (k + 1) nn S).2) (zMl (zMn ((zBk (bo 1) i0 1 k nn S).2)) ((zBk (bo 1) i0 1 k nn S).2) lj) K l2 ik fd tb tq bo so ((zBk (bo 1) i0 1 (k + 1) nn S).1)) H locs := hw
              refine lv_iinc (v := nI (k + 1)) (lv' := [(5, .int (nI (k + 1))), (0, .ref (b 0)), (2, .int (nI i0)), (3, .ref (b 6)), (4, .ref ((t 1) 0))]) hx hb dX5_book_86 hl (k := 4) rfl (nI_1 k) (by decide) rfl (fun ls hl => ?_)
              refine lv_goto (tgt := 58) hx hb dX5_book_89 (by decide) ?_
              exact ih58 (k + 1) (zMl (zMn ((zBk (bo 1) i0 1 k nn S).2)) ((zBk (bo 1) i0 1 k nn S).2) lj) (by omega) (by omega) _ _ _ hw (lv_sub hl [1, 2, 3, 4, 0] rfl)
        exact loop58 (_ + 1) 0 1000 (Nat.lt_succ_self _) (Nat.zero_le _) _ _ _ hw (lv_sub hl [3, 5, 2, 1, 0] rfl)
      · have c39 := zb_0.mp c39
        refine lv_aload_n hx hb dX5_book_42 rfl (lv_at hl 1 rfl) ?_
        refine lv_ldc (v := (-1000000001)) hx hb hown (hts _ ckX5_51) dX5_book_43 ?_
        refine zcVwi (r := (-1000000001)) hx hb hml hown hts hl.1 hK hE hA lkX5_52 (c_X5_found x b t S l0 T l1 K l2 ik fd tb tq bo so nn (-1000000001) 0 (by decide) (by decide)) ⟨Nat.le_of_ble_eq_true rfl, Nat.le_of_ble_eq_true rfl⟩ ⟨Nat.zero_le _, Nat.zero_le _⟩ hw 0 3 rfl rfl rfl rfl (Nat.le_of_ble_eq_true rfl) dX5_book_45 (fun H locs hw => ?_)
        have hw : zHw x A s.heap (zHW x b t S l0 T l1 K l2 ik (upd fd 0 (fd 0 + 1)) tb tq bo so nn) H locs := hw
        exact zFG.iret hx hb hr hlocks hQ hw rfl dX5_book_48 (by rw [show zm_book bo so nn S fd 1 h = ((-1000000001), nn, zFd fd 0) from (by unfold zm_book; rw [if_pos (by decide), show zc (1 : Int32) = 1 from rfl, if_neg c21, if_neg c39])]; exact ⟨rfl, _, _, rfl⟩)
    · have c21 := zb_n0.mp c21
      refine lv_aload_n hx hb dX5_book_24 rfl (lv_at hl 1 rfl) ?_
      refine lv_ldc (v := (-1000000006)) hx hb hown (hts _ ckX5_231) dX5_book_25 ?_
      refine zcVwi (r := (-1000000006)) hx hb hml hown hts hl.1 hK hE hA lkX5_52 (c_X5_found x b t S l0 T l1 K l2 ik fd tb tq bo so nn (-1000000006) 5 (by decide) (by decide)) ⟨Nat.le_of_ble_eq_true rfl, Nat.le_of_ble_eq_true rfl⟩ ⟨Nat.zero_le _, Nat.zero_le _⟩ hw 0 3 rfl rfl rfl rfl (Nat.le_of_ble_eq_true rfl) dX5_book_27 (fun H locs hw => ?_)
      have hw : zHw x A s.heap (zHW x b t S l0 T l1 K l2 ik (upd fd 5 (fd 5 + 1)) tb tq bo so nn) H locs := hw
      exact zFG.iret hx hb hr hlocks hQ hw rfl dX5_book_30 (by rw [show zm_book bo so nn S fd 1 h = ((-1000000006), nn, zFd fd 5) from (by unfold zm_book; rw [if_pos (by decide), show zc (1 : Int32) = 1 from rfl, if_pos c21])]; exact ⟨rfl, _, _, rfl⟩)
  · refine lv_aload_n hx hb dX5_book_0 rfl (lv_at hl 0 rfl) ?_
    refine lv_iload_n hx hb dX5_book_1 rfl (lv_at hl 1 rfl) ?_
    refine zcVwa hx hb hml hown hts hl.1 hK hE hA lkX5_219 (c_X5_sheetAt_2 x b t S l0 T l1 K l2 ik fd tb tq bo so nn) ⟨Nat.le_of_ble_eq_true rfl, Nat.le_of_ble_eq_true rfl⟩ ⟨Nat.zero_le _, Nat.zero_le _⟩ hw 0 3 rfl rfl rfl rfl (Nat.le_of_ble_eq_true rfl) dX5_book_2 (fun H locs hw => ?_)
    have hw : zHw x A s.heap (zHW x b t S l0 T l1 K l2 ik fd tb tq bo so nn) H locs := hw
    refine lv_astore_n (lv' := [(3, .ref (b 7)), (0, .ref (b 0)), (1, .int 2), (2, .int h)]) hx hb dX5_book_5 rfl hl (by decide) rfl (fun ls hl => ?_)
    refine lv_aload_n hx hb dX5_book_6 rfl (lv_at hl 0 rfl) ?_
    refine lv_ifnonnull (tgt := 17) hx hb dX5_book_7 (by decide) ?_
    refine lv_aload_n hx hb dX5_book_17 rfl (lv_at hl 0 rfl) ?_
    refine zcVmi (r := zb (bo 2 = 0)) (C1 := (zOW x b t ik fd ++ (zTW x (t 0) S l0 ++ (zTW x (t 1) T l1 ++ (zTW x (t 2) K l2 ++ (zPW x b tb tq ++ (zSH x (b 5) (b 9) (bo 0) (so 0) (nn 0) ++ zSH x (b 6) (b 10) (bo 1) (so 1) (nn 1)))))))) (C2 := (zSH x (b 8) (b 12) (bo 3) (so 3) (nn 3))) hx hb hml hown hts hl.1 hK hE hA lkX5_228 (c_X1_isMissing x (b 7) (b 11) (bo 2) (so 2) (nn 2) ) ⟨Nat.le_of_ble_eq_true rfl, Nat.le_of_ble_eq_true rfl⟩ ⟨Nat.zero_le _, Nat.zero_le _⟩ hw 0 0 rfl rfl rfl rfl (Nat.le_of_ble_eq_true rfl) dX5_book_18 (fun H locs hw => ?_)
    have hw : zHw x A s.heap (zHW x b t S l0 T l1 K l2 ik fd tb tq bo so nn) H locs := hw
    refine lv_if_eq (tgt := 31) hx hb dX5_book_21 (by decide) (fun c21 => ?_) (fun c21 => ?_)
    · have c21 := zb_0.mp c21
      refine lv_aload_n hx hb dX5_book_31 rfl (lv_at hl 1 rfl) ?_
      refine gfX5_10 hx hb hown hts hK hw 0 rfl rfl dX5_book_32 ?_
      refine lv_iload_n hx hb dX5_book_35 rfl (lv_at hl 3 rfl) ?_
      refine zcVmi (r := zb (0 ≤ h ∧ h < S 0 0)) (C1 := (zOW x b t ik fd)) (C2 := (zTW x (t 1) T l1 ++ (zTW x (t 2) K l2 ++ (zPW x b tb tq ++ (zSH x (b 5) (b 9) (bo 0) (so 0) (nn 0) ++ (zSH x (b 6) (b 10) (bo 1) (so 1) (nn 1) ++ (zSH x (b 7) (b 11) (bo 2) (so 2) (nn 2) ++ zSH x (b 8) (b 12) (bo 3) (so 3) (nn 3)))))))) hx hb hml hown hts hl.1 hK hE hA lkX5_95 (c_X3_has x (t 0) S l0 h) ⟨Nat.le_of_ble_eq_true rfl, Nat.le_of_ble_eq_true rfl⟩ ⟨Nat.zero_le _, Nat.zero_le _⟩ hw 0 2 rfl rfl rfl rfl (Nat.le_of_ble_eq_true rfl) dX5_book_36 (fun H locs hw => ?_)
      have hw : zHw x A s.heap (zHW x b t S l0 T l1 K l2 ik fd tb tq bo so nn) H locs := hw
      refine lv_if_ne (tgt := 49) hx hb dX5_book_39 (by decide) (fun c39 => ?_) (fun c39 => ?_)
      · have c39 := zb_n0.mp c39
        obtain ⟨-, n4, hn4, hs4⟩ := hS 2 (by decide)
        obtain ⟨i0, hi08, hi0N, rfl⟩ := zH_nat hI c39
        refine lv_aload_n hx hb dX5_book_49 rfl (lv_at hl 1 rfl) ?_
        refine zcVwa hx hb hml hown hts hl.1 hK hE hA lkX5_171 (c_X5_asItIs x b t S l0 T l1 K l2 ik fd tb tq bo so nn) ⟨Nat.le_of_ble_eq_true rfl, Nat.le_of_ble_eq_true rfl⟩ ⟨Nat.zero_le _, Nat.zero_le _⟩ hw 0 3 rfl rfl rfl rfl (Nat.le_of_ble_eq_true rfl) dX5_book_50 (fun H locs hw => ?_)
        have hw : zHw x A s.heap (zHW x b t S l0 S 1000 K l2 ik fd tb tq bo so nn) H locs := hw
        refine lv_astore (lv' := [(4, .ref ((t 1) 0)), (3, .ref (b 7)), (0, .ref (b 0)), (1, .int 2), (2, .int (nI i0))]) hx hb dX5_book_53 hl (by decide) rfl (fun ls hl => ?_)
        refine lv_iconst (v := 0) hx hb dX5_book_55 (by decide) ?_
        refine lv_istore (lv' := [(5, .int 0), (4, .ref ((t 1) 0)), (3, .ref (b 7)), (0, .ref (b 0)), (1, .int 2), (2, .int (nI i0))]) hx hb dX5_book_56 hl (by decide) rfl (fun ls hl => ?_)
        have loop58 : ∀ (dd : Nat) (k : Nat) (lj : Int32), n4 - k < dd → (hk : k ≤ n4) → ∀ (H : Heap) (locs : List Loc) (ls : Array Slot), zHw x A s.heap (zHW x b t S l0 ((zBk (bo 2) i0 2 k nn S).2) lj K l2 ik fd tb tq bo so ((zBk (bo 2) i0 2 k nn S).1)) H locs → lv_has ls 6 [(0, .ref (b 0)), (2, .int (nI i0)), (3, .ref (b 7)), (4, .ref ((t 1) 0)), (5, .int (nI k))] → W p x.1 e (zRM 5) s m ar below meth c H locs 0 0 Q (F0 m 58 ls []) := by
          intro dd
          induction dd with
          | zero => intro k lj hm; exact absurd hm (Nat.not_lt_zero _)
          | succ dd ih58 =>
            intro k lj hm hk H locs ls hw hl
            refine lv_iload hx hb dX5_book_58 (lv_at hl 4 rfl) ?_
            refine lv_aload_n hx hb dX5_book_60 rfl (lv_at hl 2 rfl) ?_
            refine gfX5_227 hx hb hown hts hK hw 36 rfl rfl dX5_book_61 ?_
            refine lv_icmp_ge (tgt := 92) hx hb dX5_book_64 (by decide) (fun c64 => ?_) (fun c64 => ?_)
            · have hke : k = n4 := zke hs4 (by omega) hk c64
              refine lv_aload_n hx hb dX5_book_92 rfl (lv_at hl 2 rfl) ?_
              refine gfX5_227 hx hb hown hts hK hw 36 rfl rfl dX5_book_93 ?_
              exact zFG.iret hx hb hr hlocks hQ hw rfl dX5_book_96 (by rw [show zm_book bo so nn S fd 2 (nI i0) = (nI n4, (zBk (bo 2) i0 2 k nn S).1, fd) from (by unfold zm_book; rw [if_pos (by decide), show zc (2 : Int32) = 2 from rfl, if_neg c21, if_pos c39, zc_nI (show i0 < 2147483648 by omega), hs4, zc_nI (show n4 < 2147483648 by omega), hke])]; exact ⟨zsi (by rw [hs4]), _, _, rfl⟩)
            · have hk4 : k < n4 := zkn hs4 (by omega) hk c64
              refine lv_aload_n hx hb dX5_book_67 rfl (lv_at hl 2 rfl) ?_
              refine lv_iload hx hb dX5_book_68 (lv_at hl 4 rfl) ?_
              refine lv_aload hx hb dX5_book_70 (lv_at hl 3 rfl) ?_
              refine gfX5_124 hx hb hown hts hK hw 12 rfl rfl dX5_book_72 ?_
              refine lv_iload_n hx hb dX5_book_75 rfl (lv_at hl 1 rfl) ?_
              refine zial hx hb hK hw 17 0 i0 rfl rfl rfl (by omega) (by decide) dX5_book_76 ?_
              refine lv_i2l hx hb dX5_book_77 rfl ?_
              refine zcVmv (C1 := (zOW x b t ik fd ++ (zTW x (t 0) S l0 ++ (zTW x (t 1) ((zBk (bo 2) i0 2 k nn S).2) lj ++ (zTW x (t 2) K l2 ++ (zPW x b tb tq ++ (zSH x (b 5) (b 9) (bo 0) (so 0) (((zBk (bo 2) i0 2 k nn S).1) 0) ++ zSH x (b 6) (b 10) (bo 1) (so 1) (((zBk (bo 2) i0 2 k nn S).1) 1)))))))) (C2 := (zSH x (b 8) (b 12) (bo 3) (so 3) (((zBk (bo 2) i0 2 k nn S).1) 3))) hx hb hml hown hts hl.1 hK hE hA lkX5_236 (c_X1_put x (b 7) (b 11) (bo 2) (so 2) (((zBk (bo 2) i0 2 k nn S).1) 2) k (((((zBk (bo 2) i0 2 k nn S).2) 5) i0).toInt64) (by omega) (by rw [hs4]; exact nI_lt hk4 (by omega))) ⟨Nat.le_of_ble_eq_true rfl, Nat.le_of_ble_eq_true rfl⟩ ⟨Nat.zero_le _, Nat.zero_le _⟩ hw 0 0 rfl rfl rfl rfl (Nat.le_of_ble_eq_true rfl) dX5_book_78 (fun H locs hw => ?_)
              have hw : zHw x A s.heap (zHW x b t S l0 ((zBk (bo 2) i0 2 k nn S).2) lj K l2 ik fd tb tq bo so (zUL ((zBk (bo 2) i0 2 k nn S).1) 2 k (zna (bo 2) (((((zBk (bo 2) i0 2 k nn S).2) 5) i0).toInt64)))) H locs := hw
              refine lv_aload hx hb dX5_book_81 (lv_at hl 3 rfl) ?_
              refine zcVmv (C1 := (zOW x b t ik fd ++ zTW x (t 0) S l0)) (C2 := (zTW x (t 2) K l2 ++ (zPW x b tb tq ++ (zSH x (b 5) (b 9) (bo 0) (so 0) ((zUL ((zBk (bo 2) i0 2 k nn S).1) 2 k (zna (bo 2) (((((zBk (bo 2) i0 2 k nn S).2) 5) i0).toInt64))) 0) ++ (zSH x (b 6) (b 10) (bo 1) (so 1) ((zUL ((zBk (bo 2) i0 2 k nn S).1) 2 k (zna (bo 2) (((((zBk (bo 2) i0 2 k nn S).2) 5) i0).toInt64))) 1) ++ (zSH x (b 7) (b 11) (bo 2) (so 2) ((zUL ((zBk (bo 2) i0 2 k nn S).1) 2 k (zna (bo 2) (((((zBk (bo 2) i0 2 k nn S).2) 5) i0).toInt64))) 2) ++ zSH x (b 8) (b 12) (bo 3) (so 3) ((zUL ((zBk (bo 2) i0 2 k nn S).1) 2 k (zna (bo 2) (((((zBk (bo 2) i0 2 k nn S).2) 5) i0).toInt64))) 3))))))) hx hb hml hown hts hl.1 hK hE hA lkX5_253 (c_X3_goWeek x (t 1) ((zBk (bo 2) i0 2 k nn S).2) lj (zBk_inv (bo 2) i0 2 k nn hI)) ⟨Nat.le_of_ble_eq_true rfl, Nat.le_of_ble_eq_true rfl⟩ ⟨Nat.zero_le _, Nat.zero_le _⟩ hw 0 2 rfl rfl rfl rfl (Nat.le_of_ble_eq_true rfl) dX5_book_83 (fun H locs hw => ?_)
              have hw : zHw x A s.heap (zHW x b t S l0 (zWk ((zBk (bo 2) i0 2 k nn S).2)) (zMl (zMn ((zBk (bo 2) i0 2 k nn S).2)) ((zBk (bo 2) i0 2 k nn S).2) lj) K l2 ik fd tb tq bo so (zUL ((zBk (bo 2) i0 2 k nn S).1) 2 k (zna (bo 2) (((((zBk (bo 2) i0 2 k nn S).2) 5) i0).toInt64)))) H locs := hw
              have hw : zHw x A s.heap (zHW x b t S l0 ((zBk (bo 2) i0 2 (k + 1) nn S).2) (zMl (zMn ((zBk (bo 2) i0 2 k nn S).2)) ((zBk (bo 2) i0 2 k nn S).2) lj) K l2 ik fd tb tq bo so ((zBk (bo 2) i0 2 (k + 1) nn S).1)) H locs := hw
              refine lv_iinc (v := nI (k + 1)) (lv' := [(5, .int (nI (k + 1))), (0, .ref (b 0)), (2, .int (nI i0)), (3, .ref (b 7)), (4, .ref ((t 1) 0))]) hx hb dX5_book_86 hl (k := 4) rfl (nI_1 k) (by decide) rfl (fun ls hl => ?_)
              refine lv_goto (tgt := 58) hx hb dX5_book_89 (by decide) ?_
              exact ih58 (k + 1) (zMl (zMn ((zBk (bo 2) i0 2 k nn S).2)) ((zBk (bo 2) i0 2 k nn S).2) lj) (by omega) (by omega) _ _ _ hw (lv_sub hl [1, 2, 3, 4, 0] rfl)
        exact loop58 (_ + 1) 0 1000 (Nat.lt_succ_self _) (Nat.zero_le _) _ _ _ hw (lv_sub hl [3, 5, 2, 1, 0] rfl)
      · have c39 := zb_0.mp c39
        refine lv_aload_n hx hb dX5_book_42 rfl (lv_at hl 1 rfl) ?_
        refine lv_ldc (v := (-1000000001)) hx hb hown (hts _ ckX5_51) dX5_book_43 ?_
        refine zcVwi (r := (-1000000001)) hx hb hml hown hts hl.1 hK hE hA lkX5_52 (c_X5_found x b t S l0 T l1 K l2 ik fd tb tq bo so nn (-1000000001) 0 (by decide) (by decide)) ⟨Nat.le_of_ble_eq_true rfl, Nat.le_of_ble_eq_true rfl⟩ ⟨Nat.zero_le _, Nat.zero_le _⟩ hw 0 3 rfl rfl rfl rfl (Nat.le_of_ble_eq_true rfl) dX5_book_45 (fun H locs hw => ?_)
        have hw : zHw x A s.heap (zHW x b t S l0 T l1 K l2 ik (upd fd 0 (fd 0 + 1)) tb tq bo so nn) H locs := hw
        exact zFG.iret hx hb hr hlocks hQ hw rfl dX5_book_48 (by rw [show zm_book bo so nn S fd 2 h = ((-1000000001), nn, zFd fd 0) from (by unfold zm_book; rw [if_pos (by decide), show zc (2 : Int32) = 2 from rfl, if_neg c21, if_neg c39])]; exact ⟨rfl, _, _, rfl⟩)
    · have c21 := zb_n0.mp c21
      refine lv_aload_n hx hb dX5_book_24 rfl (lv_at hl 1 rfl) ?_
      refine lv_ldc (v := (-1000000006)) hx hb hown (hts _ ckX5_231) dX5_book_25 ?_
      refine zcVwi (r := (-1000000006)) hx hb hml hown hts hl.1 hK hE hA lkX5_52 (c_X5_found x b t S l0 T l1 K l2 ik fd tb tq bo so nn (-1000000006) 5 (by decide) (by decide)) ⟨Nat.le_of_ble_eq_true rfl, Nat.le_of_ble_eq_true rfl⟩ ⟨Nat.zero_le _, Nat.zero_le _⟩ hw 0 3 rfl rfl rfl rfl (Nat.le_of_ble_eq_true rfl) dX5_book_27 (fun H locs hw => ?_)
      have hw : zHw x A s.heap (zHW x b t S l0 T l1 K l2 ik (upd fd 5 (fd 5 + 1)) tb tq bo so nn) H locs := hw
      exact zFG.iret hx hb hr hlocks hQ hw rfl dX5_book_30 (by rw [show zm_book bo so nn S fd 2 h = ((-1000000006), nn, zFd fd 5) from (by unfold zm_book; rw [if_pos (by decide), show zc (2 : Int32) = 2 from rfl, if_pos c21])]; exact ⟨rfl, _, _, rfl⟩)
  · refine lv_aload_n hx hb dX5_book_0 rfl (lv_at hl 0 rfl) ?_
    refine lv_iload_n hx hb dX5_book_1 rfl (lv_at hl 1 rfl) ?_
    refine zcVwa hx hb hml hown hts hl.1 hK hE hA lkX5_219 (c_X5_sheetAt_3 x b t S l0 T l1 K l2 ik fd tb tq bo so nn) ⟨Nat.le_of_ble_eq_true rfl, Nat.le_of_ble_eq_true rfl⟩ ⟨Nat.zero_le _, Nat.zero_le _⟩ hw 0 3 rfl rfl rfl rfl (Nat.le_of_ble_eq_true rfl) dX5_book_2 (fun H locs hw => ?_)
    have hw : zHw x A s.heap (zHW x b t S l0 T l1 K l2 ik fd tb tq bo so nn) H locs := hw
    refine lv_astore_n (lv' := [(3, .ref (b 8)), (0, .ref (b 0)), (1, .int 3), (2, .int h)]) hx hb dX5_book_5 rfl hl (by decide) rfl (fun ls hl => ?_)
    refine lv_aload_n hx hb dX5_book_6 rfl (lv_at hl 0 rfl) ?_
    refine lv_ifnonnull (tgt := 17) hx hb dX5_book_7 (by decide) ?_
    refine lv_aload_n hx hb dX5_book_17 rfl (lv_at hl 0 rfl) ?_
    refine zcVmi (r := zb (bo 3 = 0)) (C1 := (zOW x b t ik fd ++ (zTW x (t 0) S l0 ++ (zTW x (t 1) T l1 ++ (zTW x (t 2) K l2 ++ (zPW x b tb tq ++ (zSH x (b 5) (b 9) (bo 0) (so 0) (nn 0) ++ (zSH x (b 6) (b 10) (bo 1) (so 1) (nn 1) ++ zSH x (b 7) (b 11) (bo 2) (so 2) (nn 2))))))))) (C2 := []) hx hb hml hown hts hl.1 hK hE hA lkX5_228 (c_X1_isMissing x (b 8) (b 12) (bo 3) (so 3) (nn 3) ) ⟨Nat.le_of_ble_eq_true rfl, Nat.le_of_ble_eq_true rfl⟩ ⟨Nat.zero_le _, Nat.zero_le _⟩ hw 0 0 rfl rfl rfl rfl (Nat.le_of_ble_eq_true rfl) dX5_book_18 (fun H locs hw => ?_)
    have hw : zHw x A s.heap (zHW x b t S l0 T l1 K l2 ik fd tb tq bo so nn) H locs := hw
    refine lv_if_eq (tgt := 31) hx hb dX5_book_21 (by decide) (fun c21 => ?_) (fun c21 => ?_)
    · have c21 := zb_0.mp c21
      refine lv_aload_n hx hb dX5_book_31 rfl (lv_at hl 1 rfl) ?_
      refine gfX5_10 hx hb hown hts hK hw 0 rfl rfl dX5_book_32 ?_
      refine lv_iload_n hx hb dX5_book_35 rfl (lv_at hl 3 rfl) ?_
      refine zcVmi (r := zb (0 ≤ h ∧ h < S 0 0)) (C1 := (zOW x b t ik fd)) (C2 := (zTW x (t 1) T l1 ++ (zTW x (t 2) K l2 ++ (zPW x b tb tq ++ (zSH x (b 5) (b 9) (bo 0) (so 0) (nn 0) ++ (zSH x (b 6) (b 10) (bo 1) (so 1) (nn 1) ++ (zSH x (b 7) (b 11) (bo 2) (so 2) (nn 2) ++ zSH x (b 8) (b 12) (bo 3) (so 3) (nn 3)))))))) hx hb hml hown hts hl.1 hK hE hA lkX5_95 (c_X3_has x (t 0) S l0 h) ⟨Nat.le_of_ble_eq_true rfl, Nat.le_of_ble_eq_true rfl⟩ ⟨Nat.zero_le _, Nat.zero_le _⟩ hw 0 2 rfl rfl rfl rfl (Nat.le_of_ble_eq_true rfl) dX5_book_36 (fun H locs hw => ?_)
      have hw : zHw x A s.heap (zHW x b t S l0 T l1 K l2 ik fd tb tq bo so nn) H locs := hw
      refine lv_if_ne (tgt := 49) hx hb dX5_book_39 (by decide) (fun c39 => ?_) (fun c39 => ?_)
      · have c39 := zb_n0.mp c39
        obtain ⟨-, n4, hn4, hs4⟩ := hS 3 (by decide)
        obtain ⟨i0, hi08, hi0N, rfl⟩ := zH_nat hI c39
        refine lv_aload_n hx hb dX5_book_49 rfl (lv_at hl 1 rfl) ?_
        refine zcVwa hx hb hml hown hts hl.1 hK hE hA lkX5_171 (c_X5_asItIs x b t S l0 T l1 K l2 ik fd tb tq bo so nn) ⟨Nat.le_of_ble_eq_true rfl, Nat.le_of_ble_eq_true rfl⟩ ⟨Nat.zero_le _, Nat.zero_le _⟩ hw 0 3 rfl rfl rfl rfl (Nat.le_of_ble_eq_true rfl) dX5_book_50 (fun H locs hw => ?_)
        have hw : zHw x A s.heap (zHW x b t S l0 S 1000 K l2 ik fd tb tq bo so nn) H locs := hw
        refine lv_astore (lv' := [(4, .ref ((t 1) 0)), (3, .ref (b 8)), (0, .ref (b 0)), (1, .int 3), (2, .int (nI i0))]) hx hb dX5_book_53 hl (by decide) rfl (fun ls hl => ?_)
        refine lv_iconst (v := 0) hx hb dX5_book_55 (by decide) ?_
        refine lv_istore (lv' := [(5, .int 0), (4, .ref ((t 1) 0)), (3, .ref (b 8)), (0, .ref (b 0)), (1, .int 3), (2, .int (nI i0))]) hx hb dX5_book_56 hl (by decide) rfl (fun ls hl => ?_)
        have loop58 : ∀ (dd : Nat) (k : Nat) (lj : Int32), n4 - k < dd → (hk : k ≤ n4) → ∀ (H : Heap) (locs : List Loc) (ls : Array Slot), zHw x A s.heap (zHW x b t S l0 ((zBk (bo 3) i0 3 k nn S).2) lj K l2 ik fd tb tq bo so ((zBk (bo 3) i0 3 k nn S).1)) H locs → lv_has ls 6 [(0, .ref (b 0)), (2, .int (nI i0)), (3, .ref (b 8)), (4, .ref ((t 1) 0)), (5, .int (nI k))] → W p x.1 e (zRM 5) s m ar below meth c H locs 0 0 Q (F0 m 58 ls []) := by
          intro dd
          induction dd with
          | zero => intro k lj hm; exact absurd hm (Nat.not_lt_zero _)
          | succ dd ih58 =>
            intro k lj hm hk H locs ls hw hl
            refine lv_iload hx hb dX5_book_58 (lv_at hl 4 rfl) ?_
            refine lv_aload_n hx hb dX5_book_60 rfl (lv_at hl 2 rfl) ?_
            refine gfX5_227 hx hb hown hts hK hw 38 rfl rfl dX5_book_61 ?_
            refine lv_icmp_ge (tgt := 92) hx hb dX5_book_64 (by decide) (fun c64 => ?_) (fun c64 => ?_)
            · have hke : k = n4 := zke hs4 (by omega) hk c64
              refine lv_aload_n hx hb dX5_book_92 rfl (lv_at hl 2 rfl) ?_
              refine gfX5_227 hx hb hown hts hK hw 38 rfl rfl dX5_book_93 ?_
              exact zFG.iret hx hb hr hlocks hQ hw rfl dX5_book_96 (by rw [show zm_book bo so nn S fd 3 (nI i0) = (nI n4, (zBk (bo 3) i0 3 k nn S).1, fd) from (by unfold zm_book; rw [if_pos (by decide), show zc (3 : Int32) = 3 from rfl, if_neg c21, if_pos c39, zc_nI (show i0 < 2147483648 by omega), hs4, zc_nI (show n4 < 2147483648 by omega), hke])]; exact ⟨zsi (by rw [hs4]), _, _, rfl⟩)
            · have hk4 : k < n4 := zkn hs4 (by omega) hk c64
              refine lv_aload_n hx hb dX5_book_67 rfl (lv_at hl 2 rfl) ?_
              refine lv_iload hx hb dX5_book_68 (lv_at hl 4 rfl) ?_
              refine lv_aload hx hb dX5_book_70 (lv_at hl 3 rfl) ?_
              refine gfX5_124 hx hb hown hts hK hw 12 rfl rfl dX5_book_72 ?_
              refine lv_iload_n hx hb dX5_book_75 rfl (lv_at hl 1 rfl) ?_
              refine zial hx hb hK hw 17 0 i0 rfl rfl rfl (by omega) (by decide) dX5_book_76 ?_
              refine lv_i2l hx hb dX5_book_77 rfl ?_
              refine zcVmv (C1 := (zOW x b t ik fd ++ (zTW x (t 0) S l0 ++ (zTW x (t 1) ((zBk (bo 3) i0 3 k nn S).2) lj ++ (zTW x (t 2) K l2 ++ (zPW x b tb tq ++ (zSH x (b 5) (b 9) (bo 0) (so 0) (((zBk (bo 3) i0 3 k nn S).1) 0) ++ (zSH x (b 6) (b 10) (bo 1) (so 1) (((zBk (bo 3) i0 3 k nn S).1) 1) ++ zSH x (b 7) (b 11) (bo 2) (so 2) (((zBk (bo 3) i0 3 k nn S).1) 2))))))))) (C2 := []) hx hb hml hown hts hl.1 hK hE hA lkX5_236 (c_X1_put x (b 8) (b 12) (bo 3) (so 3) (((zBk (bo 3) i0 3 k nn S).1) 3) k (((((zBk (bo 3) i0 3 k nn S).2) 5) i0).toInt64) (by omega) (by rw [hs4]; exact nI_lt hk4 (by omega))) ⟨Nat.le_of_ble_eq_true rfl, Nat.le_of_ble_eq_true rfl⟩ ⟨Nat.zero_le _, Nat.zero_le _⟩ hw 0 0 rfl rfl rfl rfl (Nat.le_of_ble_eq_true rfl) dX5_book_78 (fun H locs hw => ?_)
              have hw : zHw x A s.heap (zHW x b t S l0 ((zBk (bo 3) i0 3 k nn S).2) lj K l2 ik fd tb tq bo so (zUL ((zBk (bo 3) i0 3 k nn S).1) 3 k (zna (bo 3) (((((zBk (bo 3) i0 3 k nn S).2) 5) i0).toInt64)))) H locs := hw
              refine lv_aload hx hb dX5_book_81 (lv_at hl 3 rfl) ?_
              refine zcVmv (C1 := (zOW x b t ik fd ++ zTW x (t 0) S l0)) (C2 := (zTW x (t 2) K l2 ++ (zPW x b tb tq ++ (zSH x (b 5) (b 9) (bo 0) (so 0) ((zUL ((zBk (bo 3) i0 3 k nn S).1) 3 k (zna (bo 3) (((((zBk (bo 3) i0 3 k nn S).2) 5) i0).toInt64))) 0) ++ (zSH x (b 6) (b 10) (bo 1) (so 1) ((zUL ((zBk (bo 3) i0 3 k nn S).1) 3 k (zna (bo 3) (((((zBk (bo 3) i0 3 k nn S).2) 5) i0).toInt64))) 1) ++ (zSH x (b 7) (b 11) (bo 2) (so 2) ((zUL ((zBk (bo 3) i0 3 k nn S).1) 3 k (zna (bo 3) (((((zBk (bo 3) i0 3 k nn S).2) 5) i0).toInt64))) 2) ++ zSH x (b 8) (b 12) (bo 3) (so 3) ((zUL ((zBk (bo 3) i0 3 k nn S).1) 3 k (zna (bo 3) (((((zBk (bo 3) i0 3 k nn S).2) 5) i0).toInt64))) 3))))))) hx hb hml hown hts hl.1 hK hE hA lkX5_253 (c_X3_goWeek x (t 1) ((zBk (bo 3) i0 3 k nn S).2) lj (zBk_inv (bo 3) i0 3 k nn hI)) ⟨Nat.le_of_ble_eq_true rfl, Nat.le_of_ble_eq_true rfl⟩ ⟨Nat.zero_le _, Nat.zero_le _⟩ hw 0 2 rfl rfl rfl rfl (Nat.le_of_ble_eq_true rfl) dX5_book_83 (fun H locs hw => ?_)
              have hw : zHw x A s.heap (zHW x b t S l0 (zWk ((zBk (bo 3) i0 3 k nn S).2)) (zMl (zMn ((zBk (bo 3) i0 3 k nn S).2)) ((zBk (bo 3) i0 3 k nn S).2) lj) K l2 ik fd tb tq bo so (zUL ((zBk (bo 3) i0 3 k nn S).1) 3 k (zna (bo 3) (((((zBk (bo 3) i0 3 k nn S).2) 5) i0).toInt64)))) H locs := hw
              have hw : zHw x A s.heap (zHW x b t S l0 ((zBk (bo 3) i0 3 (k + 1) nn S).2) (zMl (zMn ((zBk (bo 3) i0 3 k nn S).2)) ((zBk (bo 3) i0 3 k nn S).2) lj) K l2 ik fd tb tq bo so ((zBk (bo 3) i0 3 (k + 1) nn S).1)) H locs := hw
              refine lv_iinc (v := nI (k + 1)) (lv' := [(5, .int (nI (k + 1))), (0, .ref (b 0)), (2, .int (nI i0)), (3, .ref (b 8)), (4, .ref ((t 1) 0))]) hx hb dX5_book_86 hl (k := 4) rfl (nI_1 k) (by decide) rfl (fun ls hl => ?_)
              refine lv_goto (tgt := 58) hx hb dX5_book_89 (by decide) ?_
              exact ih58 (k + 1) (zMl (zMn ((zBk (bo 3) i0 3 k nn S).2)) ((zBk (bo 3) i0 3 k nn S).2) lj) (by omega) (by omega) _ _ _ hw (lv_sub hl [1, 2, 3, 4, 0] rfl)
        exact loop58 (_ + 1) 0 1000 (Nat.lt_succ_self _) (Nat.zero_le _) _ _ _ hw (lv_sub hl [3, 5, 2, 1, 0] rfl)
      · have c39 := zb_0.mp c39
        refine lv_aload_n hx hb dX5_book_42 rfl (lv_at hl 1 rfl) ?_
        refine lv_ldc (v := (-1000000001)) hx hb hown (hts _ ckX5_51) dX5_book_43 ?_
        refine zcVwi (r := (-1000000001)) hx hb hml hown hts hl.1 hK hE hA lkX5_52 (c_X5_found x b t S l0 T l1 K l2 ik fd tb tq bo so nn (-1000000001) 0 (by decide) (by decide)) ⟨Nat.le_of_ble_eq_true rfl, Nat.le_of_ble_eq_true rfl⟩ ⟨Nat.zero_le _, Nat.zero_le _⟩ hw 0 3 rfl rfl rfl rfl (Nat.le_of_ble_eq_true rfl) dX5_book_45 (fun H locs hw => ?_)
        have hw : zHw x A s.heap (zHW x b t S l0 T l1 K l2 ik (upd fd 0 (fd 0 + 1)) tb tq bo so nn) H locs := hw
        exact zFG.iret hx hb hr hlocks hQ hw rfl dX5_book_48 (by rw [show zm_book bo so nn S fd 3 h = ((-1000000001), nn, zFd fd 0) from (by unfold zm_book; rw [if_pos (by decide), show zc (3 : Int32) = 3 from rfl, if_neg c21, if_neg c39])]; exact ⟨rfl, _, _, rfl⟩)
    · have c21 := zb_n0.mp c21
      refine lv_aload_n hx hb dX5_book_24 rfl (lv_at hl 1 rfl) ?_
      refine lv_ldc (v := (-1000000006)) hx hb hown (hts _ ckX5_231) dX5_book_25 ?_
      refine zcVwi (r := (-1000000006)) hx hb hml hown hts hl.1 hK hE hA lkX5_52 (c_X5_found x b t S l0 T l1 K l2 ik fd tb tq bo so nn (-1000000006) 5 (by decide) (by decide)) ⟨Nat.le_of_ble_eq_true rfl, Nat.le_of_ble_eq_true rfl⟩ ⟨Nat.zero_le _, Nat.zero_le _⟩ hw 0 3 rfl rfl rfl rfl (Nat.le_of_ble_eq_true rfl) dX5_book_27 (fun H locs hw => ?_)
      have hw : zHw x A s.heap (zHW x b t S l0 T l1 K l2 ik (upd fd 5 (fd 5 + 1)) tb tq bo so nn) H locs := hw
      exact zFG.iret hx hb hr hlocks hQ hw rfl dX5_book_30 (by rw [show zm_book bo so nn S fd 3 h = ((-1000000006), nn, zFd fd 5) from (by unfold zm_book; rw [if_pos (by decide), show zc (3 : Int32) = 3 from rfl, if_pos c21])]; exact ⟨rfl, _, _, rfl⟩)
  · refine lv_aload_n hx hb dX5_book_0 rfl (lv_at hl 0 rfl) ?_
    refine lv_iload_n hx hb dX5_book_1 rfl (lv_at hl 1 rfl) ?_
    refine zcVwa hx hb hml hown hts hl.1 hK hE hA lkX5_219 (c_X5_sheetAt_no x b t S l0 T l1 K l2 ik fd tb tq bo so nn y hno) ⟨Nat.le_of_ble_eq_true rfl, Nat.le_of_ble_eq_true rfl⟩ ⟨Nat.zero_le _, Nat.zero_le _⟩ hw 0 3 rfl rfl rfl rfl (Nat.le_of_ble_eq_true rfl) dX5_book_2 (fun H locs hw => ?_)
    have hw : zHw x A s.heap (zHW x b t S l0 T l1 K l2 ik fd tb tq bo so nn) H locs := hw
    refine lv_astore_nN (lv' := [(3, Value.null), (0, .ref (b 0)), (1, .int y), (2, .int h)]) hx hb dX5_book_5 rfl hl (by decide) rfl (fun ls hl => ?_)
    refine lv_aload_nN hx hb dX5_book_6 rfl (lv_at hl 0 rfl) ?_
    refine lv_ifnonnullN hx hb dX5_book_7 ?_
    refine lv_aload_n hx hb dX5_book_10 rfl (lv_at hl 1 rfl) ?_
    refine lv_ldc (v := (-1000000001)) hx hb hown (hts _ ckX5_51) dX5_book_11 ?_
    refine zcVwi (r := (-1000000001)) hx hb hml hown hts hl.1 hK hE hA lkX5_52 (c_X5_found x b t S l0 T l1 K l2 ik fd tb tq bo so nn (-1000000001) 0 (by decide) (by decide)) ⟨Nat.le_of_ble_eq_true rfl, Nat.le_of_ble_eq_true rfl⟩ ⟨Nat.zero_le _, Nat.zero_le _⟩ hw 0 3 rfl rfl rfl rfl (Nat.le_of_ble_eq_true rfl) dX5_book_13 (fun H locs hw => ?_)
    have hw : zHw x A s.heap (zHW x b t S l0 T l1 K l2 ik (upd fd 0 (fd 0 + 1)) tb tq bo so nn) H locs := hw
    exact zFG.iret hx hb hr hlocks hQ hw rfl dX5_book_16 (by rw [show zm_book bo so nn S fd y h = ((-1000000001), nn, zFd fd 0) from (by unfold zm_book; rw [if_neg hno])]; exact ⟨rfl, _, _, rfl⟩)

set_option maxHeartbeats 4000000 in
set_option maxRecDepth 100000 in
theorem c_X5_growsAs (x : zX) (t : Nat → Nat) (S : zT) (lk : Int32) (o n : Nat) (bi le : Int32) (f : Nat → Int64) (h n4 : Nat) (hI : zInv S) (hh : h < 8) (hs4 : le = nI n4) (hn4 : n4 ≤ 40) : zFG x mX5_growsAs 5 [.ref (t 0), .int (nI h), .ref o] (zTW x t S lk ++ zSH x o n bi le f) (fun v' u' => v' = some (.int (zb (zIb f h n4 0 S = true))) ∧ ∃ (T2 : zT) (lj : Int32), u' = zTW x t T2 lj ++ zSH x o n bi le f) := by
  refine zFG.start RX5 cX5_growsAs 4 (some .boolean) rfl rfl (by decide +kernel) (Nat.le_of_ble_eq_true rfl) ?_
  intro p e s m ar below meth c ls A Q hx hb hr hml hown hts hlocks hK hE hA hQ hl hw
  have hl : lv_has ls 4 [(0, .ref (t 0)), (1, .int (nI h)), (2, .ref o)] := hl
  have hw : zHw x A s.heap (zTW x t S lk ++ zSH x o n bi le f) s.heap [] := hw
  refine lv_iconst (v := 0) hx hb dX5_growsAs_0 (by decide) ?_
  refine lv_istore_n (lv' := [(3, .int 0), (0, .ref (t 0)), (1, .int (nI h)), (2, .ref o)]) hx hb dX5_growsAs_1 rfl hl (by decide) rfl (fun ls hl => ?_)
  have loop2 : ∀ (dd : Nat) (k : Nat) (U : zT) (lj : Int32), n4 - k < dd → (hk : k ≤ n4) → (hJ : zInv U) → (e1 : zIb f h (n4 - k) k U = zIb f h n4 0 S) → ∀ (H : Heap) (locs : List Loc) (ls : Array Slot), zHw x A s.heap (zTW x t U lj ++ zSH x o n bi le f) H locs → lv_has ls 4 [(0, .ref (t 0)), (1, .int (nI h)), (2, .ref o), (3, .int (nI k))] → W p x.1 e (zRM 5) s m ar below meth c H locs 0 0 Q (F0 m 2 ls []) := by
    intro dd
    induction dd with
    | zero => intro k U lj hm; exact absurd hm (Nat.not_lt_zero _)
    | succ dd ih2 =>
      intro k U lj hm hk hJ e1 H locs ls hw hl
      refine lv_iload_n hx hb dX5_growsAs_2 rfl (lv_at hl 3 rfl) ?_
      refine lv_aload_n hx hb dX5_growsAs_3 rfl (lv_at hl 2 rfl) ?_
      refine gfX5_227 hx hb hown hts hK hw 9 rfl rfl dX5_growsAs_4 ?_
      refine lv_icmp_ge (tgt := 39) hx hb dX5_growsAs_7 (by decide) (fun c7 => ?_) (fun c7 => ?_)
      · refine lv_iconst (v := 1) hx hb dX5_growsAs_39 (by decide) ?_
        exact zFG.zret hx hb hr hlocks hQ hw rfl dX5_growsAs_40 (by decide) ⟨zsi (by have hke := zke hs4 (by omega) hk c7; rw [← e1, hke, Nat.sub_self]; exact (zb_t rfl).symm), _, _, rfl⟩
      · have hk4 : k < n4 := zkn hs4 (by omega) hk c7
        have hj : n4 - k = (n4 - (k + 1)) + 1 := by omega
        refine lv_aload_n hx hb dX5_growsAs_10 rfl (lv_at hl 2 rfl) ?_
        refine gfX5_232 hx hb hown hts hK hw 9 rfl rfl dX5_growsAs_11 ?_
        refine lv_iload_n hx hb dX5_growsAs_14 rfl (lv_at hl 3 rfl) ?_
        refine zlal hx hb hK hw 10 1 k rfl rfl rfl (by omega) (by decide) dX5_growsAs_15 ?_
        refine lv_aload_n hx hb dX5_growsAs_16 rfl (lv_at hl 0 rfl) ?_
        refine gfX5_124 hx hb hown hts hK hw 0 rfl rfl dX5_growsAs_17 ?_
        refine lv_iload_n hx hb dX5_growsAs_20 rfl (lv_at hl 1 rfl) ?_
        refine zial hx hb hK hw 5 0 h rfl rfl rfl (by omega) (by decide) dX5_growsAs_21 ?_
        refine lv_i2l hx hb dX5_growsAs_22 rfl ?_
        refine W.lcmp hx hb dX5_growsAs_23 ?_
        refine lv_if_eq (tgt := 29) hx hb dX5_growsAs_24 (by decide) (fun c24 => ?_) (fun c24 => ?_)
        · have c24 := (lg_cmp_eq _ _).mp c24
          refine lv_aload_n hx hb dX5_growsAs_29 rfl (lv_at hl 0 rfl) ?_
          refine zcVmv (C1 := []) (C2 := (zSH x o n bi le f)) hx hb hml hown hts hl.1 hK hE hA lkX5_253 (c_X3_goWeek x t U lj hJ) ⟨Nat.le_of_ble_eq_true rfl, Nat.le_of_ble_eq_true rfl⟩ ⟨Nat.zero_le _, Nat.zero_le _⟩ hw 0 2 rfl rfl rfl rfl (Nat.le_of_ble_eq_true rfl) dX5_growsAs_30 (fun H locs hw => ?_)
          have hw : zHw x A s.heap (zTW x t (zWk U) (zMl (zMn U) U lj) ++ zSH x o n bi le f) H locs := hw
          refine lv_iinc (v := nI (k + 1)) (lv' := [(3, .int (nI (k + 1))), (0, .ref (t 0)), (1, .int (nI h)), (2, .ref o)]) hx hb dX5_growsAs_33 hl (k := 3) rfl (nI_1 k) (by decide) rfl (fun ls hl => ?_)
          refine lv_goto (tgt := 2) hx hb dX5_growsAs_36 (by decide) ?_
          exact ih2 (k + 1) (zWk U) (zMl (zMn U) U lj) (by omega) (by omega) ((zWk_ok hJ).1) (by rw [← e1, hj, zIb_t c24]) _ _ _ hw (lv_sub hl [1, 2, 3, 0] rfl)
        · have c24 := fun h => c24 ((lg_cmp_eq _ _).mpr h)
          refine lv_iconst (v := 0) hx hb dX5_growsAs_27 (by decide) ?_
          exact zFG.zret hx hb hr hlocks hQ hw rfl dX5_growsAs_28 (by decide) ⟨zsi (by rw [← e1, hj, zIb_f c24]; exact (zb_f (by decide)).symm), _, _, rfl⟩
  exact loop2 (_ + 1) 0 S lk (Nat.lt_succ_self _) (Nat.zero_le _) hI rfl _ _ _ hw (lv_sub hl [1, 2, 3, 0] rfl)

set_option maxHeartbeats 4000000 in
set_option maxRecDepth 100000 in
theorem c_X5_read (x : zX) (b : Nat → Nat) (t : Nat → Nat → Nat) (S : zT) (l0 : Int32) (T : zT) (l1 : Int32) (K : zT) (l2 ik : Int32) (fd tb tq bo so : Nat → Int32) (nn : Nat → Nat → Int64) (y h : Int32) (hI : zInv S) (hS : zSI bo so) : zFG x mX5_read 6 [.ref (b 0), .int y, .int h] (zHW x b t S l0 T l1 K l2 ik fd tb tq bo so nn) (fun v' u' => v' = some (.int (zm_read bo so nn S fd y h).1) ∧ ∃ (T2 : zT) (lj : Int32), u' = zHW x b t S l0 T2 lj K l2 ik (zm_read bo so nn S fd y h).2 tb tq bo so nn) := by
  refine zFG.start RX5 cX5_read 8 (some .int) rfl rfl (by decide +kernel) (Nat.le_of_ble_eq_true rfl) ?_
  intro p e s m ar below meth c ls A Q hx hb hr hml hown hts hlocks hK hE hA hQ hl hw
  have hl : lv_has ls 8 [(0, .ref (b 0)), (1, .int y), (2, .int h)] := hl
  have hw : zHw x A s.heap (zHW x b t S l0 T l1 K l2 ik fd tb tq bo so nn) s.heap [] := hw
  rcases zcase4 y with rfl | rfl | rfl | rfl | hno
  · refine lv_aload_n hx hb dX5_read_0 rfl (lv_at hl 0 rfl) ?_
    refine lv_iload_n hx hb dX5_read_1 rfl (lv_at hl 1 rfl) ?_
    refine zcVwa hx hb hml hown hts hl.1 hK hE hA lkX5_219 (c_X5_sheetAt_0 x b t S l0 T l1 K l2 ik fd tb tq bo so nn) ⟨Nat.le_of_ble_eq_true rfl, Nat.le_of_ble_eq_true rfl⟩ ⟨Nat.zero_le _, Nat.zero_le _⟩ hw 0 3 rfl rfl rfl rfl (Nat.le_of_ble_eq_true rfl) dX5_read_2 (fun H locs hw => ?_)
    have hw : zHw x A s.heap (zHW x b t S l0 T l1 K l2 ik fd tb tq bo so nn) H locs := hw
    refine lv_astore_n (lv' := [(3, .ref (b 5)), (0, .ref (b 0)), (1, .int 0), (2, .int h)]) hx hb dX5_read_5 rfl hl (by decide) rfl (fun ls hl => ?_)
    refine lv_aload_n hx hb dX5_read_6 rfl (lv_at hl 0 rfl) ?_
    refine lv_ifnonnull (tgt := 17) hx hb dX5_read_7 (by decide) ?_
    refine lv_aload_n hx hb dX5_read_17 rfl (lv_at hl 0 rfl) ?_
    refine zcVmi (r := zb (bo 0 = 0)) (C1 := (zOW x b t ik fd ++ (zTW x (t 0) S l0 ++ (zTW x (t 1) T l1 ++ (zTW x (t 2) K l2 ++ zPW x b tb tq))))) (C2 := (zSH x (b 6) (b 10) (bo 1) (so 1) (nn 1) ++ (zSH x (b 7) (b 11) (bo 2) (so 2) (nn 2) ++ zSH x (b 8) (b 12) (bo 3) (so 3) (nn 3)))) hx hb hml hown hts hl.1 hK hE hA lkX5_228 (c_X1_isMissing x (b 5) (b 9) (bo 0) (so 0) (nn 0) ) ⟨Nat.le_of_ble_eq_true rfl, Nat.le_of_ble_eq_true rfl⟩ ⟨Nat.zero_le _, Nat.zero_le _⟩ hw 0 0 rfl rfl rfl rfl (Nat.le_of_ble_eq_true rfl) dX5_read_18 (fun H locs hw => ?_)
    have hw : zHw x A s.heap (zHW x b t S l0 T l1 K l2 ik fd tb tq bo so nn) H locs := hw
    refine lv_if_eq (tgt := 31) hx hb dX5_read_21 (by decide) (fun c21 => ?_) (fun c21 => ?_)
    · have c21 := zb_0.mp c21
      refine lv_aload_n hx hb dX5_read_31 rfl (lv_at hl 1 rfl) ?_
      refine gfX5_10 hx hb hown hts hK hw 0 rfl rfl dX5_read_32 ?_
      refine lv_iload_n hx hb dX5_read_35 rfl (lv_at hl 3 rfl) ?_
      refine zcVmi (r := zb (0 ≤ h ∧ h < S 0 0)) (C1 := (zOW x b t ik fd)) (C2 := (zTW x (t 1) T l1 ++ (zTW x (t 2) K l2 ++ (zPW x b tb tq ++ (zSH x (b 5) (b 9) (bo 0) (so 0) (nn 0) ++ (zSH x (b 6) (b 10) (bo 1) (so 1) (nn 1) ++ (zSH x (b 7) (b 11) (bo 2) (so 2) (nn 2) ++ zSH x (b 8) (b 12) (bo 3) (so 3) (nn 3)))))))) hx hb hml hown hts hl.1 hK hE hA lkX5_95 (c_X3_has x (t 0) S l0 h) ⟨Nat.le_of_ble_eq_true rfl, Nat.le_of_ble_eq_true rfl⟩ ⟨Nat.zero_le _, Nat.zero_le _⟩ hw 0 2 rfl rfl rfl rfl (Nat.le_of_ble_eq_true rfl) dX5_read_36 (fun H locs hw => ?_)
      have hw : zHw x A s.heap (zHW x b t S l0 T l1 K l2 ik fd tb tq bo so nn) H locs := hw
      refine lv_if_ne (tgt := 49) hx hb dX5_read_39 (by decide) (fun c39 => ?_) (fun c39 => ?_)
      · have c39 := zb_n0.mp c39
        obtain ⟨-, n4, hn4, hs4⟩ := hS 0 (by decide)
        obtain ⟨i0, hi08, hi0N, rfl⟩ := zH_nat hI c39
        refine lv_iconst (v := 0) hx hb dX5_read_49 (by decide) ?_
        refine lv_istore (lv' := [(4, .int 0), (3, .ref (b 5)), (0, .ref (b 0)), (1, .int 0), (2, .int (nI i0))]) hx hb dX5_read_50 hl (by decide) rfl (fun ls hl => ?_)
        refine lv_iconst (v := 0) hx hb dX5_read_52 (by decide) ?_
        refine lv_istore (lv' := [(5, .int 0), (4, .int 0), (3, .ref (b 5)), (0, .ref (b 0)), (1, .int 0), (2, .int (nI i0))]) hx hb dX5_read_53 hl (by decide) rfl (fun ls hl => ?_)
        have loop55 : ∀ (dd : Nat) (k : Nat) (U : zT) (lj : Int32), 6 - k < dd → (hk : k ≤ 6) → ∀ (H : Heap) (locs : List Loc) (ls : Array Slot), zHw x A s.heap (zHW x b t S l0 U lj K l2 ik fd tb tq bo so nn) H locs → lv_has ls 8 [(0, .ref (b 0)), (2, .int (nI i0)), (3, .ref (b 5)), (4, .int (nI (zRp (nn 0) n4 S i0 (3 * k)))), (5, .int (nI k))] → W p x.1 e (zRM 6) s m ar below meth c H locs 0 0 Q (F0 m 55 ls []) := by
          intro dd
          induction dd with
          | zero => intro k U lj hm; exact absurd hm (Nat.not_lt_zero _)
          | succ dd ih55 =>
            intro k U lj hm hk H locs ls hw hl
            refine lv_iload hx hb dX5_read_55 (lv_at hl 4 rfl) ?_
            refine lv_bipush (v := 6) hx hb dX5_read_57 (by decide) ?_
            refine lv_icmp_ge (tgt := 128) hx hb dX5_read_59 (by decide) (fun c59 => ?_) (fun c59 => ?_)
            · have hke : k = 6 := zke (v := 6) rfl (by omega) hk c59
              refine lv_iload hx hb dX5_read_128 (lv_at hl 3 rfl) ?_
              exact zFG.iret hx hb hr hlocks hQ hw rfl dX5_read_130 (by rw [show zm_read bo so nn S fd 0 (nI i0) = (nI (zRp (nn 0) n4 S i0 (3 * k)), fd) from (by unfold zm_read; rw [if_pos (by decide), show zc (0 : Int32) = 0 from rfl, if_neg c21, if_pos c39, zc_nI (show i0 < 2147483648 by omega), hs4, zc_nI (show n4 < 2147483648 by omega), hke])]; exact ⟨rfl, _, _, rfl⟩)
            · have hkn : k < 6 := zkn (v := 6) rfl (by omega) hk c59
              refine lv_iconst (v := 0) hx hb dX5_read_62 (by decide) ?_
              refine lv_istore (lv' := [(6, .int 0), (0, .ref (b 0)), (2, .int (nI i0)), (3, .ref (b 5)), (4, .int (nI (zRp (nn 0) n4 S i0 (3 * k)))), (5, .int (nI k))]) hx hb dX5_read_63 hl (by decide) rfl (fun ls hl => ?_)
              have loop65 : ∀ (dd : Nat) (r : Nat) (U : zT) (lj : Int32), 3 - r < dd → (hr3 : r ≤ 3) → ∀ (H : Heap) (locs : List Loc) (ls : Array Slot), zHw x A s.heap (zHW x b t S l0 U lj K l2 ik fd tb tq bo so nn) H locs → lv_has ls 8 [(0, .ref (b 0)), (2, .int (nI i0)), (3, .ref (b 5)), (4, .int (nI (zRp (nn 0) n4 S i0 (3 * k + r)))), (5, .int (nI k)), (6, .int (nI r))] → W p x.1 e (zRM 6) s m ar below meth c H locs 0 0 Q (F0 m 65 ls []) := by
                intro dd
                induction dd with
                | zero => intro r U lj hm; exact absurd hm (Nat.not_lt_zero _)
                | succ dd ih65 =>
                  intro r U lj hm hr3 H locs ls hw hl
                  refine lv_iload hx hb dX5_read_65 (lv_at hl 5 rfl) ?_
                  refine lv_iconst (v := 3) hx hb dX5_read_67 (by decide) ?_
                  refine lv_icmp_ge (tgt := 122) hx hb dX5_read_68 (by decide) (fun c68 => ?_) (fun c68 => ?_)
                  · have hre : r = 3 := zke (v := 3) rfl (by omega) hr3 c68
                    have hl : lv_has ls 8 [(0, .ref (b 0)), (2, .int (nI i0)), (3, .ref (b 5)), (4, .int (nI (zRp (nn 0) n4 S i0 (3 * (k + 1))))), (5, .int (nI k)), (6, .int (nI r))] := by
                      rw [show nI (zRp (nn 0) n4 S i0 (3 * (k + 1))) = nI (zRp (nn 0) n4 S i0 (3 * k + r)) from (by rw [hre]; rfl)]; exact hl
                    refine lv_iinc (v := nI (k + 1)) (lv' := [(5, .int (nI (k + 1))), (0, .ref (b 0)), (2, .int (nI i0)), (3, .ref (b 5)), (4, .int (nI (zRp (nn 0) n4 S i0 (3 * (k + 1))))), (6, .int (nI r))]) hx hb dX5_read_122 hl (k := 4) rfl (nI_1 k) (by decide) rfl (fun ls hl => ?_)
                    refine lv_goto (tgt := 55) hx hb dX5_read_125 (by decide) ?_
                    exact ih55 (k + 1) U lj (by omega) (by omega) _ _ _ hw (lv_sub hl [1, 2, 3, 4, 0] rfl)
                  · have hrn : r < 3 := zkn (v := 3) rfl (by omega) hr3 c68
                    have hpa : zU (zU (zU S 3 i0 (nI k)) 6 i0 (nI r)) 7 i0 0 = zpa S i0 (3 * k + r) := by unfold zpa; rw [show (3 * k + r) / 3 = k from by omega, show (3 * k + r) % 3 = r from by omega]
                    refine lv_aload_n hx hb dX5_read_71 rfl (lv_at hl 0 rfl) ?_
                    refine zcVwa hx hb hml hown hts hl.1 hK hE hA lkX5_171 (c_X5_asItIs x b t S l0 U lj K l2 ik fd tb tq bo so nn) ⟨Nat.le_of_ble_eq_true rfl, Nat.le_of_ble_eq_true rfl⟩ ⟨Nat.zero_le _, Nat.zero_le _⟩ hw 0 3 rfl rfl rfl rfl (Nat.le_of_ble_eq_true rfl) dX5_read_72 (fun H locs hw => ?_)
                    have hw : zHw x A s.heap (zHW x b t S l0 S 1000 K l2 ik fd tb tq bo so nn) H locs := hw
                    refine lv_astore (lv' := [(7, .ref ((t 1) 0)), (0, .ref (b 0)), (2, .int (nI i0)), (3, .ref (b 5)), (4, .int (nI (zRp (nn 0) n4 S i0 (3 * k + r)))), (5, .int (nI k)), (6, .int (nI r))]) hx hb dX5_read_75 hl (by decide) rfl (fun ls hl => ?_)
                    refine lv_aload hx hb dX5_read_77 (lv_at hl 0 rfl) ?_
                    refine gfX5_104 hx hb hown hts hK hw 12 rfl rfl dX5_read_79 ?_
                    refine lv_iload_n hx hb dX5_read_82 rfl (lv_at hl 2 rfl) ?_
                    refine lv_iload hx hb dX5_read_83 (lv_at hl 5 rfl) ?_
                    refine zias hx hb hK hw 15 0 i0 rfl rfl rfl (by omega) (by decide) dX5_read_85 (fun H locs hw => ?_)
                    have hw : zHw x A s.heap (zHW x b t S l0 (zU S 3 i0 (nI k)) 1000 K l2 ik fd tb tq bo so nn) H locs := hw
                    refine lv_aload hx hb dX5_read_86 (lv_at hl 0 rfl) ?_
                    refine gfX5_127 hx hb hown hts hK hw 12 rfl rfl dX5_read_88 ?_
                    refine lv_iload_n hx hb dX5_read_91 rfl (lv_at hl 2 rfl) ?_
                    refine lv_iload hx hb dX5_read_92 (lv_at hl 6 rfl) ?_
                    refine zias hx hb hK hw 18 0 i0 rfl rfl rfl (by omega) (by decide) dX5_read_94 (fun H locs hw => ?_)
                    have hw : zHw x A s.heap (zHW x b t S l0 (zU (zU S 3 i0 (nI k)) 6 i0 (nI r)) 1000 K l2 ik fd tb tq bo so nn) H locs := hw
                    refine lv_aload hx hb dX5_read_95 (lv_at hl 0 rfl) ?_
                    refine gfX5_256 hx hb hown hts hK hw 12 rfl rfl dX5_read_97 ?_
                    refine lv_iload_n hx hb dX5_read_100 rfl (lv_at hl 2 rfl) ?_
                    refine lv_iconst (v := 0) hx hb dX5_read_101 (by decide) ?_
                    refine zias hx hb hK hw 19 0 i0 rfl rfl rfl (by omega) (by decide) dX5_read_102 (fun H locs hw => ?_)
                    have hw : zHw x A s.heap (zHW x b t S l0 (zU (zU (zU S 3 i0 (nI k)) 6 i0 (nI r)) 7 i0 0) 1000 K l2 ik fd tb tq bo so nn) H locs := hw
                    have hw : zHw x A s.heap (zHW x b t S l0 (zpa S i0 (3 * k + r)) 1000 K l2 ik fd tb tq bo so nn) H locs := hw.re (by rw [hpa])
                    refine lv_aload hx hb dX5_read_103 (lv_at hl 0 rfl) ?_
                    refine lv_iload_n hx hb dX5_read_105 rfl (lv_at hl 2 rfl) ?_
                    refine lv_aload_n hx hb dX5_read_106 rfl (lv_at hl 3 rfl) ?_
                    have hw := hw.pick (ws' := zOW x b t ik fd ++ ((zTW x (t 1) (zpa S i0 (3 * k + r)) 1000 ++ zSH x (b 5) (b 9) (bo 0) (so 0) (nn 0)) ++ (zTW x (t 0) S l0 ++ (zTW x (t 2) K l2 ++ (zPW x b tb tq ++ (zSH x (b 6) (b 10) (bo 1) (so 1) (nn 1) ++ (zSH x (b 7) (b 11) (bo 2) (so 2) (nn 2) ++ zSH x (b 8) (b 12) (bo 3) (so 3) (nn 3)))))))) [0, 1, 2, 12, 13, 14, 15, 16, 17, 18, 19, 20, 32, 33, 3, 4, 5, 6, 7, 8, 9, 10, 11, 21, 22, 23, 24, 25, 26, 27, 28, 29, 30, 31, 34, 35, 36, 37, 38, 39] (by decide) rfl
                    refine zcSm (C1 := (zOW x b t ik fd)) (C2 := (zTW x (t 0) S l0 ++ (zTW x (t 2) K l2 ++ (zPW x b tb tq ++ (zSH x (b 6) (b 10) (bo 1) (so 1) (nn 1) ++ (zSH x (b 7) (b 11) (bo 2) (so 2) (nn 2) ++ zSH x (b 8) (b 12) (bo 3) (so 3) (nn 3))))))) hx hb hml hown hts hl.1 hK hE hA lkX5_259 (c_X5_growsAs x (t 1) (zpa S i0 (3 * k + r)) 1000 (b 5) (b 9) (bo 0) (so 0) (nn 0) i0 n4 (zpa_inv hI (by omega)) (by omega) hs4 hn4) ⟨Nat.le_of_ble_eq_true rfl, Nat.le_of_ble_eq_true rfl⟩ ⟨Nat.zero_le _, Nat.zero_le _⟩ hw rfl rfl (Nat.le_of_ble_eq_true rfl) dX5_read_107 (fun vv uu H locs hp hw => ?_)
                    obtain ⟨rfl, T3, lq, rfl⟩ := hp
                    have hw : zHw x A s.heap (zHW x b t S l0 T3 lq K l2 ik fd tb tq bo so nn) H locs := hw.pick [0, 1, 2, 14, 15, 16, 17, 18, 19, 20, 21, 22, 3, 4, 5, 6, 7, 8, 9, 10, 11, 23, 24, 25, 26, 27, 28, 29, 30, 31, 32, 33, 12, 13, 34, 35, 36, 37, 38, 39] (by decide) rfl
                    refine W.eq (g2 := F0 m 110 ls [.int (zb (zIb (nn 0) i0 n4 0 (zpa S i0 (3 * k + r)) = true))]) rfl ?_
                    have hw : zHw x A s.heap (zHW x b t S l0 T3 lq K l2 ik fd tb tq bo so nn) H locs := hw
                    refine lv_if_eq (tgt := 116) hx hb dX5_read_110 (by decide) (fun c110 => ?_) (fun c110 => ?_)
                    · have c110 := zb_0.mp c110
                      have hl : lv_has ls 8 [(7, .ref ((t 1) 0)), (0, .ref (b 0)), (2, .int (nI i0)), (3, .ref (b 5)), (4, .int (nI (zRp (nn 0) n4 S i0 (3 * k + r + 1)))), (5, .int (nI k)), (6, .int (nI r))] := by
                        rw [show nI (zRp (nn 0) n4 S i0 (3 * k + r + 1)) = nI (zRp (nn 0) n4 S i0 (3 * k + r)) from (congrArg nI (show zRp (nn 0) n4 S i0 (3 * k + r + 1) = zRp (nn 0) n4 S i0 (3 * k + r) from (by show _ + _ = _; rw [if_neg c110, Nat.add_zero])))]; exact hl
                      refine lv_iinc (v := nI (r + 1)) (lv' := [(6, .int (nI (r + 1))), (7, .ref ((t 1) 0)), (0, .ref (b 0)), (2, .int (nI i0)), (3, .ref (b 5)), (4, .int (nI (zRp (nn 0) n4 S i0 (3 * k + r + 1)))), (5, .int (nI k))]) hx hb dX5_read_116 hl (k := 6) rfl (nI_1 r) (by decide) rfl (fun ls hl => ?_)
                      refine lv_goto (tgt := 65) hx hb dX5_read_119 (by decide) ?_
                      exact ih65 (r + 1) T3 lq (by omega) (by omega) _ _ _ hw (lv_sub hl [2, 3, 4, 5, 6, 0] rfl)
                    · have c110 := zb_n0.mp c110
                      refine lv_iinc (v := nI (zRp (nn 0) n4 S i0 (3 * k + r) + 1)) (lv' := [(4, .int (nI (zRp (nn 0) n4 S i0 (3 * k + r) + 1))), (7, .ref ((t 1) 0)), (0, .ref (b 0)), (2, .int (nI i0)), (3, .ref (b 5)), (5, .int (nI k)), (6, .int (nI r))]) hx hb dX5_read_113 hl (k := 4) rfl (nI_1 (zRp (nn 0) n4 S i0 (3 * k + r))) (by decide) rfl (fun ls hl => ?_)
                      have hl : lv_has ls 8 [(4, .int (nI (zRp (nn 0) n4 S i0 (3 * k + r + 1)))), (7, .ref ((t 1) 0)), (0, .ref (b 0)), (2, .int (nI i0)), (3, .ref (b 5)), (5, .int (nI k)), (6, .int (nI r))] := by
                        rw [show nI (zRp (nn 0) n4 S i0 (3 * k + r + 1)) = nI (zRp (nn 0) n4 S i0 (3 * k + r) + 1) from (congrArg nI (show zRp (nn 0) n4 S i0 (3 * k + r + 1) = zRp (nn 0) n4 S i0 (3 * k + r) + 1 from (by show _ + _ = _; rw [if_pos c110])))]; exact hl
                      refine lv_iinc (v := nI (r + 1)) (lv' := [(6, .int (nI (r + 1))), (4, .int (nI (zRp (nn 0) n4 S i0 (3 * k + r + 1)))), (7, .ref ((t 1) 0)), (0, .ref (b 0)), (2, .int (nI i0)), (3, .ref (b 5)), (5, .int (nI k))]) hx hb dX5_read_116 hl (k := 6) rfl (nI_1 r) (by decide) rfl (fun ls hl => ?_)
                      refine lv_goto (tgt := 65) hx hb dX5_read_119 (by decide) ?_
                      exact ih65 (r + 1) T3 lq (by omega) (by omega) _ _ _ hw (lv_sub hl [3, 4, 5, 1, 6, 0] rfl)
              exact loop65 (_ + 1) 0 U lj (Nat.lt_succ_self _) (Nat.zero_le _) _ _ _ hw (lv_sub hl [1, 2, 3, 4, 5, 0] rfl)
        exact loop55 (_ + 1) 0 T l1 (Nat.lt_succ_self _) (Nat.zero_le _) _ _ _ hw (lv_sub hl [3, 5, 2, 1, 0] rfl)
      · have c39 := zb_0.mp c39
        refine lv_aload_n hx hb dX5_read_42 rfl (lv_at hl 1 rfl) ?_
        refine lv_ldc (v := (-1000000001)) hx hb hown (hts _ ckX5_51) dX5_read_43 ?_
        refine zcVwi (r := (-1000000001)) hx hb hml hown hts hl.1 hK hE hA lkX5_52 (c_X5_found x b t S l0 T l1 K l2 ik fd tb tq bo so nn (-1000000001) 0 (by decide) (by decide)) ⟨Nat.le_of_ble_eq_true rfl, Nat.le_of_ble_eq_true rfl⟩ ⟨Nat.zero_le _, Nat.zero_le _⟩ hw 0 3 rfl rfl rfl rfl (Nat.le_of_ble_eq_true rfl) dX5_read_45 (fun H locs hw => ?_)
        have hw : zHw x A s.heap (zHW x b t S l0 T l1 K l2 ik (upd fd 0 (fd 0 + 1)) tb tq bo so nn) H locs := hw
        exact zFG.iret hx hb hr hlocks hQ hw rfl dX5_read_48 (by rw [show zm_read bo so nn S fd 0 h = ((-1000000001), zFd fd 0) from (by unfold zm_read; rw [if_pos (by decide), show zc (0 : Int32) = 0 from rfl, if_neg c21, if_neg c39])]; exact ⟨rfl, _, _, rfl⟩)
    · have c21 := zb_n0.mp c21
      refine lv_aload_n hx hb dX5_read_24 rfl (lv_at hl 1 rfl) ?_
      refine lv_ldc (v := (-1000000006)) hx hb hown (hts _ ckX5_231) dX5_read_25 ?_
      refine zcVwi (r := (-1000000006)) hx hb hml hown hts hl.1 hK hE hA lkX5_52 (c_X5_found x b t S l0 T l1 K l2 ik fd tb tq bo so nn (-1000000006) 5 (by decide) (by decide)) ⟨Nat.le_of_ble_eq_true rfl, Nat.le_of_ble_eq_true rfl⟩ ⟨Nat.zero_le _, Nat.zero_le _⟩ hw 0 3 rfl rfl rfl rfl (Nat.le_of_ble_eq_true rfl) dX5_read_27 (fun H locs hw => ?_)
      have hw : zHw x A s.heap (zHW x b t S l0 T l1 K l2 ik (upd fd 5 (fd 5 + 1)) tb tq bo so nn) H locs := hw
      exact zFG.iret hx hb hr hlocks hQ hw rfl dX5_read_30 (by rw [show zm_read bo so nn S fd 0 h = ((-1000000006), zFd fd 5) from (by unfold zm_read; rw [if_pos (by decide), show zc (0 : Int32) = 0 from rfl, if_pos c21])]; exact ⟨rfl, _, _, rfl⟩)
  · refine lv_aload_n hx hb dX5_read_0 rfl (lv_at hl 0 rfl) ?_
    refine lv_iload_n hx hb dX5_read_1 rfl (lv_at hl 1 rfl) ?_
    refine zcVwa hx hb hml hown hts hl.1 hK hE hA lkX5_219 (c_X5_sheetAt_1 x b t S l0 T l1 K l2 ik fd tb tq bo so nn) ⟨Nat.le_of_ble_eq_true rfl, Nat.le_of_ble_eq_true rfl⟩ ⟨Nat.zero_le _, Nat.zero_le _⟩ hw 0 3 rfl rfl rfl rfl (Nat.le_of_ble_eq_true rfl) dX5_read_2 (fun H locs hw => ?_)
    have hw : zHw x A s.heap (zHW x b t S l0 T l1 K l2 ik fd tb tq bo so nn) H locs := hw
    refine lv_astore_n (lv' := [(3, .ref (b 6)), (0, .ref (b 0)), (1, .int 1), (2, .int h)]) hx hb dX5_read_5 rfl hl (by decide) rfl (fun ls hl => ?_)
    refine lv_aload_n hx hb dX5_read_6 rfl (lv_at hl 0 rfl) ?_
    refine lv_ifnonnull (tgt := 17) hx hb dX5_read_7 (by decide) ?_
    refine lv_aload_n hx hb dX5_read_17 rfl (lv_at hl 0 rfl) ?_
    refine zcVmi (r := zb (bo 1 = 0)) (C1 := (zOW x b t ik fd ++ (zTW x (t 0) S l0 ++ (zTW x (t 1) T l1 ++ (zTW x (t 2) K l2 ++ (zPW x b tb tq ++ zSH x (b 5) (b 9) (bo 0) (so 0) (nn 0))))))) (C2 := (zSH x (b 7) (b 11) (bo 2) (so 2) (nn 2) ++ zSH x (b 8) (b 12) (bo 3) (so 3) (nn 3))) hx hb hml hown hts hl.1 hK hE hA lkX5_228 (c_X1_isMissing x (b 6) (b 10) (bo 1) (so 1) (nn 1) ) ⟨Nat.le_of_ble_eq_true rfl, Nat.le_of_ble_eq_true rfl⟩ ⟨Nat.zero_le _, Nat.zero_le _⟩ hw 0 0 rfl rfl rfl rfl (Nat.le_of_ble_eq_true rfl) dX5_read_18 (fun H locs hw => ?_)
    have hw : zHw x A s.heap (zHW x b t S l0 T l1 K l2 ik fd tb tq bo so nn) H locs := hw
    refine lv_if_eq (tgt := 31) hx hb dX5_read_21 (by decide) (fun c21 => ?_) (fun c21 => ?_)
    · have c21 := zb_0.mp c21
      refine lv_aload_n hx hb dX5_read_31 rfl (lv_at hl 1 rfl) ?_
      refine gfX5_10 hx hb hown hts hK hw 0 rfl rfl dX5_read_32 ?_
      refine lv_iload_n hx hb dX5_read_35 rfl (lv_at hl 3 rfl) ?_
      refine zcVmi (r := zb (0 ≤ h ∧ h < S 0 0)) (C1 := (zOW x b t ik fd)) (C2 := (zTW x (t 1) T l1 ++ (zTW x (t 2) K l2 ++ (zPW x b tb tq ++ (zSH x (b 5) (b 9) (bo 0) (so 0) (nn 0) ++ (zSH x (b 6) (b 10) (bo 1) (so 1) (nn 1) ++ (zSH x (b 7) (b 11) (bo 2) (so 2) (nn 2) ++ zSH x (b 8) (b 12) (bo 3) (so 3) (nn 3)))))))) hx hb hml hown hts hl.1 hK hE hA lkX5_95 (c_X3_has x (t 0) S l0 h) ⟨Nat.le_of_ble_eq_true rfl, Nat.le_of_ble_eq_true rfl⟩ ⟨Nat.zero_le _, Nat.zero_le _⟩ hw 0 2 rfl rfl rfl rfl (Nat.le_of_ble_eq_true rfl) dX5_read_36 (fun H locs hw => ?_)
      have hw : zHw x A s.heap (zHW x b t S l0 T l1 K l2 ik fd tb tq bo so nn) H locs := hw
      refine lv_if_ne (tgt := 49) hx hb dX5_read_39 (by decide) (fun c39 => ?_) (fun c39 => ?_)
      · have c39 := zb_n0.mp c39
        obtain ⟨-, n4, hn4, hs4⟩ := hS 1 (by decide)
        obtain ⟨i0, hi08, hi0N, rfl⟩ := zH_nat hI c39
        refine lv_iconst (v := 0) hx hb dX5_read_49 (by decide) ?_
        refine lv_istore (lv' := [(4, .int 0), (3, .ref (b 6)), (0, .ref (b 0)), (1, .int 1), (2, .int (nI i0))]) hx hb dX5_read_50 hl (by decide) rfl (fun ls hl => ?_)
        refine lv_iconst (v := 0) hx hb dX5_read_52 (by decide) ?_
        refine lv_istore (lv' := [(5, .int 0), (4, .int 0), (3, .ref (b 6)), (0, .ref (b 0)), (1, .int 1), (2, .int (nI i0))]) hx hb dX5_read_53 hl (by decide) rfl (fun ls hl => ?_)
        have loop55 : ∀ (dd : Nat) (k : Nat) (U : zT) (lj : Int32), 6 - k < dd → (hk : k ≤ 6) → ∀ (H : Heap) (locs : List Loc) (ls : Array Slot), zHw x A s.heap (zHW x b t S l0 U lj K l2 ik fd tb tq bo so nn) H locs → lv_has ls 8 [(0, .ref (b 0)), (2, .int (nI i0)), (3, .ref (b 6)), (4, .int (nI (zRp (nn 1) n4 S i0 (3 * k)))), (5, .int (nI k))] → W p x.1 e (zRM 6) s m ar below meth c H locs 0 0 Q (F0 m 55 ls []) := by
          intro dd
          induction dd with
          | zero => intro k U lj hm; exact absurd hm (Nat.not_lt_zero _)
          | succ dd ih55 =>
            intro k U lj hm hk H locs ls hw hl
            refine lv_iload hx hb dX5_read_55 (lv_at hl 4 rfl) ?_
            refine lv_bipush (v := 6) hx hb dX5_read_57 (by decide) ?_
            refine lv_icmp_ge (tgt := 128) hx hb dX5_read_59 (by decide) (fun c59 => ?_) (fun c59 => ?_)
            · have hke : k = 6 := zke (v := 6) rfl (by omega) hk c59
              refine lv_iload hx hb dX5_read_128 (lv_at hl 3 rfl) ?_
              exact zFG.iret hx hb hr hlocks hQ hw rfl dX5_read_130 (by rw [show zm_read bo so nn S fd 1 (nI i0) = (nI (zRp (nn 1) n4 S i0 (3 * k)), fd) from (by unfold zm_read; rw [if_pos (by decide), show zc (1 : Int32) = 1 from rfl, if_neg c21, if_pos c39, zc_nI (show i0 < 2147483648 by omega), hs4, zc_nI (show n4 < 2147483648 by omega), hke])]; exact ⟨rfl, _, _, rfl⟩)
            · have hkn : k < 6 := zkn (v := 6) rfl (by omega) hk c59
              refine lv_iconst (v := 0) hx hb dX5_read_62 (by decide) ?_
              refine lv_istore (lv' := [(6, .int 0), (0, .ref (b 0)), (2, .int (nI i0)), (3, .ref (b 6)), (4, .int (nI (zRp (nn 1) n4 S i0 (3 * k)))), (5, .int (nI k))]) hx hb dX5_read_63 hl (by decide) rfl (fun ls hl => ?_)
              have loop65 : ∀ (dd : Nat) (r : Nat) (U : zT) (lj : Int32), 3 - r < dd → (hr3 : r ≤ 3) → ∀ (H : Heap) (locs : List Loc) (ls : Array Slot), zHw x A s.heap (zHW x b t S l0 U lj K l2 ik fd tb tq bo so nn) H locs → lv_has ls 8 [(0, .ref (b 0)), (2, .int (nI i0)), (3, .ref (b 6)), (4, .int (nI (zRp (nn 1) n4 S i0 (3 * k + r)))), (5, .int (nI k)), (6, .int (nI r))] → W p x.1 e (zRM 6) s m ar below meth c H locs 0 0 Q (F0 m 65 ls []) := by
                intro dd
                induction dd with
                | zero => intro r U lj hm; exact absurd hm (Nat.not_lt_zero _)
                | succ dd ih65 =>
                  intro r U lj hm hr3 H locs ls hw hl
                  refine lv_iload hx hb dX5_read_65 (lv_at hl 5 rfl) ?_
                  refine lv_iconst (v := 3) hx hb dX5_read_67 (by decide) ?_
                  refine lv_icmp_ge (tgt := 122) hx hb dX5_read_68 (by decide) (fun c68 => ?_) (fun c68 => ?_)
                  · have hre : r = 3 := zke (v := 3) rfl (by omega) hr3 c68
                    have hl : lv_has ls 8 [(0, .ref (b 0)), (2, .int (nI i0)), (3, .ref (b 6)), (4, .int (nI (zRp (nn 1) n4 S i0 (3 * (k + 1))))), (5, .int (nI k)), (6, .int (nI r))] := by
                      rw [show nI (zRp (nn 1) n4 S i0 (3 * (k + 1))) = nI (zRp (nn 1) n4 S i0 (3 * k + r)) from (by rw [hre]; rfl)]; exact hl
                    refine lv_iinc (v := nI (k + 1)) (lv' := [(5, .int (nI (k + 1))), (0, .ref (b 0)), (2, .int (nI i0)), (3, .ref (b 6)), (4, .int (nI (zRp (nn 1) n4 S i0 (3 * (k + 1))))), (6, .int (nI r))]) hx hb dX5_read_122 hl (k := 4) rfl (nI_1 k) (by decide) rfl (fun ls hl => ?_)
                    refine lv_goto (tgt := 55) hx hb dX5_read_125 (by decide) ?_
                    exact ih55 (k + 1) U lj (by omega) (by omega) _ _ _ hw (lv_sub hl [1, 2, 3, 4, 0] rfl)
                  · have hrn : r < 3 := zkn (v := 3) rfl (by omega) hr3 c68
                    have hpa : zU (zU (zU S 3 i0 (nI k)) 6 i0 (nI r)) 7 i0 0 = zpa S i0 (3 * k + r) := by unfold zpa; rw [show (3 * k + r) / 3 = k from by omega, show (3 * k + r) % 3 = r from by omega]
                    refine lv_aload_n hx hb dX5_read_71 rfl (lv_at hl 0 rfl) ?_
                    refine zcVwa hx hb hml hown hts hl.1 hK hE hA lkX5_171 (c_X5_asItIs x b t S l0 U lj K l2 ik fd tb tq bo so nn) ⟨Nat.le_of_ble_eq_true rfl, Nat.le_of_ble_eq_true rfl⟩ ⟨Nat.zero_le _, Nat.zero_le _⟩ hw 0 3 rfl rfl rfl rfl (Nat.le_of_ble_eq_true rfl) dX5_read_72 (fun H locs hw => ?_)
                    have hw : zHw x A s.heap (zHW x b t S l0 S 1000 K l2 ik fd tb tq bo so nn) H locs := hw
                    refine lv_astore (lv' := [(7, .ref ((t 1) 0)), (0, .ref (b 0)), (2, .int (nI i0)), (3, .ref (b 6)), (4, .int (nI (zRp (nn 1) n4 S i0 (3 * k + r)))), (5, .int (nI k)), (6, .int (nI r))]) hx hb dX5_read_75 hl (by decide) rfl (fun ls hl => ?_)
                    refine lv_aload hx hb dX5_read_77 (lv_at hl 0 rfl) ?_
                    refine gfX5_104 hx hb hown hts hK hw 12 rfl rfl dX5_read_79 ?_
                    refine lv_iload_n hx hb dX5_read_82 rfl (lv_at hl 2 rfl) ?_
                    refine lv_iload hx hb dX5_read_83 (lv_at hl 5 rfl) ?_
                    refine zias hx hb hK hw 15 0 i0 rfl rfl rfl (by omega) (by decide) dX5_read_85 (fun H locs hw => ?_)
                    have hw : zHw x A s.heap (zHW x b t S l0 (zU S 3 i0 (nI k)) 1000 K l2 ik fd tb tq bo so nn) H locs := hw
                    refine lv_aload hx hb dX5_read_86 (lv_at hl 0 rfl) ?_
                    refine gfX5_127 hx hb hown hts hK hw 12 rfl rfl dX5_read_88 ?_
                    refine lv_iload_n hx hb dX5_read_91 rfl (lv_at hl 2 rfl) ?_
                    refine lv_iload hx hb dX5_read_92 (lv_at hl 6 rfl) ?_
                    refine zias hx hb hK hw 18 0 i0 rfl rfl rfl (by omega) (by decide) dX5_read_94 (fun H locs hw => ?_)
                    have hw : zHw x A s.heap (zHW x b t S l0 (zU (zU S 3 i0 (nI k)) 6 i0 (nI r)) 1000 K l2 ik fd tb tq bo so nn) H locs := hw
                    refine lv_aload hx hb dX5_read_95 (lv_at hl 0 rfl) ?_
                    refine gfX5_256 hx hb hown hts hK hw 12 rfl rfl dX5_read_97 ?_
                    refine lv_iload_n hx hb dX5_read_100 rfl (lv_at hl 2 rfl) ?_
                    refine lv_iconst (v := 0) hx hb dX5_read_101 (by decide) ?_
                    refine zias hx hb hK hw 19 0 i0 rfl rfl rfl (by omega) (by decide) dX5_read_102 (fun H locs hw => ?_)
                    have hw : zHw x A s.heap (zHW x b t S l0 (zU (zU (zU S 3 i0 (nI k)) 6 i0 (nI r)) 7 i0 0) 1000 K l2 ik fd tb tq bo so nn) H locs := hw
                    have hw : zHw x A s.heap (zHW x b t S l0 (zpa S i0 (3 * k + r)) 1000 K l2 ik fd tb tq bo so nn) H locs := hw.re (by rw [hpa])
                    refine lv_aload hx hb dX5_read_103 (lv_at hl 0 rfl) ?_
                    refine lv_iload_n hx hb dX5_read_105 rfl (lv_at hl 2 rfl) ?_
                    refine lv_aload_n hx hb dX5_read_106 rfl (lv_at hl 3 rfl) ?_
                    have hw := hw.pick (ws' := zOW x b t ik fd ++ ((zTW x (t 1) (zpa S i0 (3 * k + r)) 1000 ++ zSH x (b 6) (b 10) (bo 1) (so 1) (nn 1)) ++ (zTW x (t 0) S l0 ++ (zTW x (t 2) K l2 ++ (zPW x b tb tq ++ (zSH x (b 5) (b 9) (bo 0) (so 0) (nn 0) ++ (zSH x (b 7) (b 11) (bo 2) (so 2) (nn 2) ++ zSH x (b 8) (b 12) (bo 3) (so 3) (nn 3)))))))) [0, 1, 2, 12, 13, 14, 15, 16, 17, 18, 19, 20, 34, 35, 3, 4, 5, 6, 7, 8, 9, 10, 11, 21, 22, 23, 24, 25, 26, 27, 28, 29, 30, 31, 32, 33, 36, 37, 38, 39] (by decide) rfl
                    refine zcSm (C1 := (zOW x b t ik fd)) (C2 := (zTW x (t 0) S l0 ++ (zTW x (t 2) K l2 ++ (zPW x b tb tq ++ (zSH x (b 5) (b 9) (bo 0) (so 0) (nn 0) ++ (zSH x (b 7) (b 11) (bo 2) (so 2) (nn 2) ++ zSH x (b 8) (b 12) (bo 3) (so 3) (nn 3))))))) hx hb hml hown hts hl.1 hK hE hA lkX5_259 (c_X5_growsAs x (t 1) (zpa S i0 (3 * k + r)) 1000 (b 6) (b 10) (bo 1) (so 1) (nn 1) i0 n4 (zpa_inv hI (by omega)) (by omega) hs4 hn4) ⟨Nat.le_of_ble_eq_true rfl, Nat.le_of_ble_eq_true rfl⟩ ⟨Nat.zero_le _, Nat.zero_le _⟩ hw rfl rfl (Nat.le_of_ble_eq_true rfl) dX5_read_107 (fun vv uu H locs hp hw => ?_)
                    obtain ⟨rfl, T3, lq, rfl⟩ := hp
                    have hw : zHw x A s.heap (zHW x b t S l0 T3 lq K l2 ik fd tb tq bo so nn) H locs := hw.pick [0, 1, 2, 14, 15, 16, 17, 18, 19, 20, 21, 22, 3, 4, 5, 6, 7, 8, 9, 10, 11, 23, 24, 25, 26, 27, 28, 29, 30, 31, 32, 33, 34, 35, 12, 13, 36, 37, 38, 39] (by decide) rfl
                    refine W.eq (g2 := F0 m 110 ls [.int (zb (zIb (nn 1) i0 n4 0 (zpa S i0 (3 * k + r)) = true))]) rfl ?_
                    have hw : zHw x A s.heap (zHW x b t S l0 T3 lq K l2 ik fd tb tq bo so nn) H locs := hw
                    refine lv_if_eq (tgt := 116) hx hb dX5_read_110 (by decide) (fun c110 => ?_) (fun c110 => ?_)
                    · have c110 := zb_0.mp c110
                      have hl : lv_has ls 8 [(7, .ref ((t 1) 0)), (0, .ref (b 0)), (2, .int (nI i0)), (3, .ref (b 6)), (4, .int (nI (zRp (nn 1) n4 S i0 (3 * k + r + 1)))), (5, .int (nI k)), (6, .int (nI r))] := by
                        rw [show nI (zRp (nn 1) n4 S i0 (3 * k + r + 1)) = nI (zRp (nn 1) n4 S i0 (3 * k + r)) from (congrArg nI (show zRp (nn 1) n4 S i0 (3 * k + r + 1) = zRp (nn 1) n4 S i0 (3 * k + r) from (by show _ + _ = _; rw [if_neg c110, Nat.add_zero])))]; exact hl
                      refine lv_iinc (v := nI (r + 1)) (lv' := [(6, .int (nI (r + 1))), (7, .ref ((t 1) 0)), (0, .ref (b 0)), (2, .int (nI i0)), (3, .ref (b 6)), (4, .int (nI (zRp (nn 1) n4 S i0 (3 * k + r + 1)))), (5, .int (nI k))]) hx hb dX5_read_116 hl (k := 6) rfl (nI_1 r) (by decide) rfl (fun ls hl => ?_)
                      refine lv_goto (tgt := 65) hx hb dX5_read_119 (by decide) ?_
                      exact ih65 (r + 1) T3 lq (by omega) (by omega) _ _ _ hw (lv_sub hl [2, 3, 4, 5, 6, 0] rfl)
                    · have c110 := zb_n0.mp c110
                      refine lv_iinc (v := nI (zRp (nn 1) n4 S i0 (3 * k + r) + 1)) (lv' := [(4, .int (nI (zRp (nn 1) n4 S i0 (3 * k + r) + 1))), (7, .ref ((t 1) 0)), (0, .ref (b 0)), (2, .int (nI i0)), (3, .ref (b 6)), (5, .int (nI k)), (6, .int (nI r))]) hx hb dX5_read_113 hl (k := 4) rfl (nI_1 (zRp (nn 1) n4 S i0 (3 * k + r))) (by decide) rfl (fun ls hl => ?_)
                      have hl : lv_has ls 8 [(4, .int (nI (zRp (nn 1) n4 S i0 (3 * k + r + 1)))), (7, .ref ((t 1) 0)), (0, .ref (b 0)), (2, .int (nI i0)), (3, .ref (b 6)), (5, .int (nI k)), (6, .int (nI r))] := by
                        rw [show nI (zRp (nn 1) n4 S i0 (3 * k + r + 1)) = nI (zRp (nn 1) n4 S i0 (3 * k + r) + 1) from (congrArg nI (show zRp (nn 1) n4 S i0 (3 * k + r + 1) = zRp (nn 1) n4 S i0 (3 * k + r) + 1 from (by show _ + _ = _; rw [if_pos c110])))]; exact hl
                      refine lv_iinc (v := nI (r + 1)) (lv' := [(6, .int (nI (r + 1))), (4, .int (nI (zRp (nn 1) n4 S i0 (3 * k + r + 1)))), (7, .ref ((t 1) 0)), (0, .ref (b 0)), (2, .int (nI i0)), (3, .ref (b 6)), (5, .int (nI k))]) hx hb dX5_read_116 hl (k := 6) rfl (nI_1 r) (by decide) rfl (fun ls hl => ?_)
                      refine lv_goto (tgt := 65) hx hb dX5_read_119 (by decide) ?_
                      exact ih65 (r + 1) T3 lq (by omega) (by omega) _ _ _ hw (lv_sub hl [3, 4, 5, 1, 6, 0] rfl)
              exact loop65 (_ + 1) 0 U lj (Nat.lt_succ_self _) (Nat.zero_le _) _ _ _ hw (lv_sub hl [1, 2, 3, 4, 5, 0] rfl)
        exact loop55 (_ + 1) 0 T l1 (Nat.lt_succ_self _) (Nat.zero_le _) _ _ _ hw (lv_sub hl [3, 5, 2, 1, 0] rfl)
      · have c39 := zb_0.mp c39
        refine lv_aload_n hx hb dX5_read_42 rfl (lv_at hl 1 rfl) ?_
        refine lv_ldc (v := (-1000000001)) hx hb hown (hts _ ckX5_51) dX5_read_43 ?_
        refine zcVwi (r := (-1000000001)) hx hb hml hown hts hl.1 hK hE hA lkX5_52 (c_X5_found x b t S l0 T l1 K l2 ik fd tb tq bo so nn (-1000000001) 0 (by decide) (by decide)) ⟨Nat.le_of_ble_eq_true rfl, Nat.le_of_ble_eq_true rfl⟩ ⟨Nat.zero_le _, Nat.zero_le _⟩ hw 0 3 rfl rfl rfl rfl (Nat.le_of_ble_eq_true rfl) dX5_read_45 (fun H locs hw => ?_)
        have hw : zHw x A s.heap (zHW x b t S l0 T l1 K l2 ik (upd fd 0 (fd 0 + 1)) tb tq bo so nn) H locs := hw
        exact zFG.iret hx hb hr hlocks hQ hw rfl dX5_read_48 (by rw [show zm_read bo so nn S fd 1 h = ((-1000000001), zFd fd 0) from (by unfold zm_read; rw [if_pos (by decide), show zc (1 : Int32) = 1 from rfl, if_neg c21, if_neg c39])]; exact ⟨rfl, _, _, rfl⟩)
    · have c21 := zb_n0.mp c21
      refine lv_aload_n hx hb dX5_read_24 rfl (lv_at hl 1 rfl) ?_
      refine lv_ldc (v := (-1000000006)) hx hb hown (hts _ ckX5_231) dX5_read_25 ?_
      refine zcVwi (r := (-1000000006)) hx hb hml hown hts hl.1 hK hE hA lkX5_52 (c_X5_found x b t S l0 T l1 K l2 ik fd tb tq bo so nn (-1000000006) 5 (by decide) (by decide)) ⟨Nat.le_of_ble_eq_true rfl, Nat.le_of_ble_eq_true rfl⟩ ⟨Nat.zero_le _, Nat.zero_le _⟩ hw 0 3 rfl rfl rfl rfl (Nat.le_of_ble_eq_true rfl) dX5_read_27 (fun H locs hw => ?_)
      have hw : zHw x A s.heap (zHW x b t S l0 T l1 K l2 ik (upd fd 5 (fd 5 + 1)) tb tq bo so nn) H locs := hw
      exact zFG.iret hx hb hr hlocks hQ hw rfl dX5_read_30 (by rw [show zm_read bo so nn S fd 1 h = ((-1000000006), zFd fd 5) from (by unfold zm_read; rw [if_pos (by decide), show zc (1 : Int32) = 1 from rfl, if_pos c21])]; exact ⟨rfl, _, _, rfl⟩)
  · refine lv_aload_n hx hb dX5_read_0 rfl (lv_at hl 0 rfl) ?_
    refine lv_iload_n hx hb dX5_read_1 rfl (lv_at hl 1 rfl) ?_
    refine zcVwa hx hb hml hown hts hl.1 hK hE hA lkX5_219 (c_X5_sheetAt_2 x b t S l0 T l1 K l2 ik fd tb tq bo so nn) ⟨Nat.le_of_ble_eq_true rfl, Nat.le_of_ble_eq_true rfl⟩ ⟨Nat.zero_le _, Nat.zero_le _⟩ hw 0 3 rfl rfl rfl rfl (Nat.le_of_ble_eq_true rfl) dX5_read_2 (fun H locs hw => ?_)
    have hw : zHw x A s.heap (zHW x b t S l0 T l1 K l2 ik fd tb tq bo so nn) H locs := hw
    refine lv_astore_n (lv' := [(3, .ref (b 7)), (0, .ref (b 0)), (1, .int 2), (2, .int h)]) hx hb dX5_read_5 rfl hl (by decide) rfl (fun ls hl => ?_)
    refine lv_aload_n hx hb dX5_read_6 rfl (lv_at hl 0 rfl) ?_
    refine lv_ifnonnull (tgt := 17) hx hb dX5_read_7 (by decide) ?_
    refine lv_aload_n hx hb dX5_read_17 rfl (lv_at hl 0 rfl) ?_
    refine zcVmi (r := zb (bo 2 = 0)) (C1 := (zOW x b t ik fd ++ (zTW x (t 0) S l0 ++ (zTW x (t 1) T l1 ++ (zTW x (t 2) K l2 ++ (zPW x b tb tq ++ (zSH x (b 5) (b 9) (bo 0) (so 0) (nn 0) ++ zSH x (b 6) (b 10) (bo 1) (so 1) (nn 1)))))))) (C2 := (zSH x (b 8) (b 12) (bo 3) (so 3) (nn 3))) hx hb hml hown hts hl.1 hK hE hA lkX5_228 (c_X1_isMissing x (b 7) (b 11) (bo 2) (so 2) (nn 2) ) ⟨Nat.le_of_ble_eq_true rfl, Nat.le_of_ble_eq_true rfl⟩ ⟨Nat.zero_le _, Nat.zero_le _⟩ hw 0 0 rfl rfl rfl rfl (Nat.le_of_ble_eq_true rfl) dX5_read_18 (fun H locs hw => ?_)
    have hw : zHw x A s.heap (zHW x b t S l0 T l1 K l2 ik fd tb tq bo so nn) H locs := hw
    refine lv_if_eq (tgt := 31) hx hb dX5_read_21 (by decide) (fun c21 => ?_) (fun c21 => ?_)
    · have c21 := zb_0.mp c21
      refine lv_aload_n hx hb dX5_read_31 rfl (lv_at hl 1 rfl) ?_
      refine gfX5_10 hx hb hown hts hK hw 0 rfl rfl dX5_read_32 ?_
      refine lv_iload_n hx hb dX5_read_35 rfl (lv_at hl 3 rfl) ?_
      refine zcVmi (r := zb (0 ≤ h ∧ h < S 0 0)) (C1 := (zOW x b t ik fd)) (C2 := (zTW x (t 1) T l1 ++ (zTW x (t 2) K l2 ++ (zPW x b tb tq ++ (zSH x (b 5) (b 9) (bo 0) (so 0) (nn 0) ++ (zSH x (b 6) (b 10) (bo 1) (so 1) (nn 1) ++ (zSH x (b 7) (b 11) (bo 2) (so 2) (nn 2) ++ zSH x (b 8) (b 12) (bo 3) (so 3) (nn 3)))))))) hx hb hml hown hts hl.1 hK hE hA lkX5_95 (c_X3_has x (t 0) S l0 h) ⟨Nat.le_of_ble_eq_true rfl, Nat.le_of_ble_eq_true rfl⟩ ⟨Nat.zero_le _, Nat.zero_le _⟩ hw 0 2 rfl rfl rfl rfl (Nat.le_of_ble_eq_true rfl) dX5_read_36 (fun H locs hw => ?_)
      have hw : zHw x A s.heap (zHW x b t S l0 T l1 K l2 ik fd tb tq bo so nn) H locs := hw
      refine lv_if_ne (tgt := 49) hx hb dX5_read_39 (by decide) (fun c39 => ?_) (fun c39 => ?_)
      · have c39 := zb_n0.mp c39
        obtain ⟨-, n4, hn4, hs4⟩ := hS 2 (by decide)
        obtain ⟨i0, hi08, hi0N, rfl⟩ := zH_nat hI c39
        refine lv_iconst (v := 0) hx hb dX5_read_49 (by decide) ?_
        refine lv_istore (lv' := [(4, .int 0), (3, .ref (b 7)), (0, .ref (b 0)), (1, .int 2), (2, .int (nI i0))]) hx hb dX5_read_50 hl (by decide) rfl (fun ls hl => ?_)
        refine lv_iconst (v := 0) hx hb dX5_read_52 (by decide) ?_
        refine lv_istore (lv' := [(5, .int 0), (4, .int 0), (3, .ref (b 7)), (0, .ref (b 0)), (1, .int 2), (2, .int (nI i0))]) hx hb dX5_read_53 hl (by decide) rfl (fun ls hl => ?_)
        have loop55 : ∀ (dd : Nat) (k : Nat) (U : zT) (lj : Int32), 6 - k < dd → (hk : k ≤ 6) → ∀ (H : Heap) (locs : List Loc) (ls : Array Slot), zHw x A s.heap (zHW x b t S l0 U lj K l2 ik fd tb tq bo so nn) H locs → lv_has ls 8 [(0, .ref (b 0)), (2, .int (nI i0)), (3, .ref (b 7)), (4, .int (nI (zRp (nn 2) n4 S i0 (3 * k)))), (5, .int (nI k))] → W p x.1 e (zRM 6) s m ar below meth c H locs 0 0 Q (F0 m 55 ls []) := by
          intro dd
          induction dd with
          | zero => intro k U lj hm; exact absurd hm (Nat.not_lt_zero _)
          | succ dd ih55 =>
            intro k U lj hm hk H locs ls hw hl
            refine lv_iload hx hb dX5_read_55 (lv_at hl 4 rfl) ?_
            refine lv_bipush (v := 6) hx hb dX5_read_57 (by decide) ?_
            refine lv_icmp_ge (tgt := 128) hx hb dX5_read_59 (by decide) (fun c59 => ?_) (fun c59 => ?_)
            · have hke : k = 6 := zke (v := 6) rfl (by omega) hk c59
              refine lv_iload hx hb dX5_read_128 (lv_at hl 3 rfl) ?_
              exact zFG.iret hx hb hr hlocks hQ hw rfl dX5_read_130 (by rw [show zm_read bo so nn S fd 2 (nI i0) = (nI (zRp (nn 2) n4 S i0 (3 * k)), fd) from (by unfold zm_read; rw [if_pos (by decide), show zc (2 : Int32) = 2 from rfl, if_neg c21, if_pos c39, zc_nI (show i0 < 2147483648 by omega), hs4, zc_nI (show n4 < 2147483648 by omega), hke])]; exact ⟨rfl, _, _, rfl⟩)
            · have hkn : k < 6 := zkn (v := 6) rfl (by omega) hk c59
              refine lv_iconst (v := 0) hx hb dX5_read_62 (by decide) ?_
              refine lv_istore (lv' := [(6, .int 0), (0, .ref (b 0)), (2, .int (nI i0)), (3, .ref (b 7)), (4, .int (nI (zRp (nn 2) n4 S i0 (3 * k)))), (5, .int (nI k))]) hx hb dX5_read_63 hl (by decide) rfl (fun ls hl => ?_)
              have loop65 : ∀ (dd : Nat) (r : Nat) (U : zT) (lj : Int32), 3 - r < dd → (hr3 : r ≤ 3) → ∀ (H : Heap) (locs : List Loc) (ls : Array Slot), zHw x A s.heap (zHW x b t S l0 U lj K l2 ik fd tb tq bo so nn) H locs → lv_has ls 8 [(0, .ref (b 0)), (2, .int (nI i0)), (3, .ref (b 7)), (4, .int (nI (zRp (nn 2) n4 S i0 (3 * k + r)))), (5, .int (nI k)), (6, .int (nI r))] → W p x.1 e (zRM 6) s m ar below meth c H locs 0 0 Q (F0 m 65 ls []) := by
                intro dd
                induction dd with
                | zero => intro r U lj hm; exact absurd hm (Nat.not_lt_zero _)
                | succ dd ih65 =>
                  intro r U lj hm hr3 H locs ls hw hl
                  refine lv_iload hx hb dX5_read_65 (lv_at hl 5 rfl) ?_
                  refine lv_iconst (v := 3) hx hb dX5_read_67 (by decide) ?_
                  refine lv_icmp_ge (tgt := 122) hx hb dX5_read_68 (by decide) (fun c68 => ?_) (fun c68 => ?_)
                  · have hre : r = 3 := zke (v := 3) rfl (by omega) hr3 c68
                    have hl : lv_has ls 8 [(0, .ref (b 0)), (2, .int (nI i0)), (3, .ref (b 7)), (4, .int (nI (zRp (nn 2) n4 S i0 (3 * (k + 1))))), (5, .int (nI k)), (6, .int (nI r))] := by
                      rw [show nI (zRp (nn 2) n4 S i0 (3 * (k + 1))) = nI (zRp (nn 2) n4 S i0 (3 * k + r)) from (by rw [hre]; rfl)]; exact hl
                    refine lv_iinc (v := nI (k + 1)) (lv' := [(5, .int (nI (k + 1))), (0, .ref (b 0)), (2, .int (nI i0)), (3, .ref (b 7)), (4, .int (nI (zRp (nn 2) n4 S i0 (3 * (k + 1))))), (6, .int (nI r))]) hx hb dX5_read_122 hl (k := 4) rfl (nI_1 k) (by decide) rfl (fun ls hl => ?_)
                    refine lv_goto (tgt := 55) hx hb dX5_read_125 (by decide) ?_
                    exact ih55 (k + 1) U lj (by omega) (by omega) _ _ _ hw (lv_sub hl [1, 2, 3, 4, 0] rfl)
                  · have hrn : r < 3 := zkn (v := 3) rfl (by omega) hr3 c68
                    have hpa : zU (zU (zU S 3 i0 (nI k)) 6 i0 (nI r)) 7 i0 0 = zpa S i0 (3 * k + r) := by unfold zpa; rw [show (3 * k + r) / 3 = k from by omega, show (3 * k + r) % 3 = r from by omega]
                    refine lv_aload_n hx hb dX5_read_71 rfl (lv_at hl 0 rfl) ?_
                    refine zcVwa hx hb hml hown hts hl.1 hK hE hA lkX5_171 (c_X5_asItIs x b t S l0 U lj K l2 ik fd tb tq bo so nn) ⟨Nat.le_of_ble_eq_true rfl, Nat.le_of_ble_eq_true rfl⟩ ⟨Nat.zero_le _, Nat.zero_le _⟩ hw 0 3 rfl rfl rfl rfl (Nat.le_of_ble_eq_true rfl) dX5_read_72 (fun H locs hw => ?_)
                    have hw : zHw x A s.heap (zHW x b t S l0 S 1000 K l2 ik fd tb tq bo so nn) H locs := hw
                    refine lv_astore (lv' := [(7, .ref ((t 1) 0)), (0, .ref (b 0)), (2, .int (nI i0)), (3, .ref (b 7)), (4, .int (nI (zRp (nn 2) n4 S i0 (3 * k + r)))), (5, .int (nI k)), (6, .int (nI r))]) hx hb dX5_read_75 hl (by decide) rfl (fun ls hl => ?_)
                    refine lv_aload hx hb dX5_read_77 (lv_at hl 0 rfl) ?_
                    refine gfX5_104 hx hb hown hts hK hw 12 rfl rfl dX5_read_79 ?_
                    refine lv_iload_n hx hb dX5_read_82 rfl (lv_at hl 2 rfl) ?_
                    refine lv_iload hx hb dX5_read_83 (lv_at hl 5 rfl) ?_
                    refine zias hx hb hK hw 15 0 i0 rfl rfl rfl (by omega) (by decide) dX5_read_85 (fun H locs hw => ?_)
                    have hw : zHw x A s.heap (zHW x b t S l0 (zU S 3 i0 (nI k)) 1000 K l2 ik fd tb tq bo so nn) H locs := hw
                    refine lv_aload hx hb dX5_read_86 (lv_at hl 0 rfl) ?_
                    refine gfX5_127 hx hb hown hts hK hw 12 rfl rfl dX5_read_88 ?_
                    refine lv_iload_n hx hb dX5_read_91 rfl (lv_at hl 2 rfl) ?_
                    refine lv_iload hx hb dX5_read_92 (lv_at hl 6 rfl) ?_
                    refine zias hx hb hK hw 18 0 i0 rfl rfl rfl (by omega) (by decide) dX5_read_94 (fun H locs hw => ?_)
                    have hw : zHw x A s.heap (zHW x b t S l0 (zU (zU S 3 i0 (nI k)) 6 i0 (nI r)) 1000 K l2 ik fd tb tq bo so nn) H locs := hw
                    refine lv_aload hx hb dX5_read_95 (lv_at hl 0 rfl) ?_
                    refine gfX5_256 hx hb hown hts hK hw 12 rfl rfl dX5_read_97 ?_
                    refine lv_iload_n hx hb dX5_read_100 rfl (lv_at hl 2 rfl) ?_
                    refine lv_iconst (v := 0) hx hb dX5_read_101 (by decide) ?_
                    refine zias hx hb hK hw 19 0 i0 rfl rfl rfl (by omega) (by decide) dX5_read_102 (fun H locs hw => ?_)
                    have hw : zHw x A s.heap (zHW x b t S l0 (zU (zU (zU S 3 i0 (nI k)) 6 i0 (nI r)) 7 i0 0) 1000 K l2 ik fd tb tq bo so nn) H locs := hw
                    have hw : zHw x A s.heap (zHW x b t S l0 (zpa S i0 (3 * k + r)) 1000 K l2 ik fd tb tq bo so nn) H locs := hw.re (by rw [hpa])
                    refine lv_aload hx hb dX5_read_103 (lv_at hl 0 rfl) ?_
                    refine lv_iload_n hx hb dX5_read_105 rfl (lv_at hl 2 rfl) ?_
                    refine lv_aload_n hx hb dX5_read_106 rfl (lv_at hl 3 rfl) ?_
                    have hw := hw.pick (ws' := zOW x b t ik fd ++ ((zTW x (t 1) (zpa S i0 (3 * k + r)) 1000 ++ zSH x (b 7) (b 11) (bo 2) (so 2) (nn 2)) ++ (zTW x (t 0) S l0 ++ (zTW x (t 2) K l2 ++ (zPW x b tb tq ++ (zSH x (b 5) (b 9) (bo 0) (so 0) (nn 0) ++ (zSH x (b 6) (b 10) (bo 1) (so 1) (nn 1) ++ zSH x (b 8) (b 12) (bo 3) (so 3) (nn 3)))))))) [0, 1, 2, 12, 13, 14, 15, 16, 17, 18, 19, 20, 36, 37, 3, 4, 5, 6, 7, 8, 9, 10, 11, 21, 22, 23, 24, 25, 26, 27, 28, 29, 30, 31, 32, 33, 34, 35, 38, 39] (by decide) rfl
                    refine zcSm (C1 := (zOW x b t ik fd)) (C2 := (zTW x (t 0) S l0 ++ (zTW x (t 2) K l2 ++ (zPW x b tb tq ++ (zSH x (b 5) (b 9) (bo 0) (so 0) (nn 0) ++ (zSH x (b 6) (b 10) (bo 1) (so 1) (nn 1) ++ zSH x (b 8) (b 12) (bo 3) (so 3) (nn 3))))))) hx hb hml hown hts hl.1 hK hE hA lkX5_259 (c_X5_growsAs x (t 1) (zpa S i0 (3 * k + r)) 1000 (b 7) (b 11) (bo 2) (so 2) (nn 2) i0 n4 (zpa_inv hI (by omega)) (by omega) hs4 hn4) ⟨Nat.le_of_ble_eq_true rfl, Nat.le_of_ble_eq_true rfl⟩ ⟨Nat.zero_le _, Nat.zero_le _⟩ hw rfl rfl (Nat.le_of_ble_eq_true rfl) dX5_read_107 (fun vv uu H locs hp hw => ?_)
                    obtain ⟨rfl, T3, lq, rfl⟩ := hp
                    have hw : zHw x A s.heap (zHW x b t S l0 T3 lq K l2 ik fd tb tq bo so nn) H locs := hw.pick [0, 1, 2, 14, 15, 16, 17, 18, 19, 20, 21, 22, 3, 4, 5, 6, 7, 8, 9, 10, 11, 23, 24, 25, 26, 27, 28, 29, 30, 31, 32, 33, 34, 35, 36, 37, 12, 13, 38, 39] (by decide) rfl
                    refine W.eq (g2 := F0 m 110 ls [.int (zb (zIb (nn 2) i0 n4 0 (zpa S i0 (3 * k + r)) = true))]) rfl ?_
                    have hw : zHw x A s.heap (zHW x b t S l0 T3 lq K l2 ik fd tb tq bo so nn) H locs := hw
                    refine lv_if_eq (tgt := 116) hx hb dX5_read_110 (by decide) (fun c110 => ?_) (fun c110 => ?_)
                    · have c110 := zb_0.mp c110
                      have hl : lv_has ls 8 [(7, .ref ((t 1) 0)), (0, .ref (b 0)), (2, .int (nI i0)), (3, .ref (b 7)), (4, .int (nI (zRp (nn 2) n4 S i0 (3 * k + r + 1)))), (5, .int (nI k)), (6, .int (nI r))] := by
                        rw [show nI (zRp (nn 2) n4 S i0 (3 * k + r + 1)) = nI (zRp (nn 2) n4 S i0 (3 * k + r)) from (congrArg nI (show zRp (nn 2) n4 S i0 (3 * k + r + 1) = zRp (nn 2) n4 S i0 (3 * k + r) from (by show _ + _ = _; rw [if_neg c110, Nat.add_zero])))]; exact hl
                      refine lv_iinc (v := nI (r + 1)) (lv' := [(6, .int (nI (r + 1))), (7, .ref ((t 1) 0)), (0, .ref (b 0)), (2, .int (nI i0)), (3, .ref (b 7)), (4, .int (nI (zRp (nn 2) n4 S i0 (3 * k + r + 1)))), (5, .int (nI k))]) hx hb dX5_read_116 hl (k := 6) rfl (nI_1 r) (by decide) rfl (fun ls hl => ?_)
                      refine lv_goto (tgt := 65) hx hb dX5_read_119 (by decide) ?_
                      exact ih65 (r + 1) T3 lq (by omega) (by omega) _ _ _ hw (lv_sub hl [2, 3, 4, 5, 6, 0] rfl)
                    · have c110 := zb_n0.mp c110
                      refine lv_iinc (v := nI (zRp (nn 2) n4 S i0 (3 * k + r) + 1)) (lv' := [(4, .int (nI (zRp (nn 2) n4 S i0 (3 * k + r) + 1))), (7, .ref ((t 1) 0)), (0, .ref (b 0)), (2, .int (nI i0)), (3, .ref (b 7)), (5, .int (nI k)), (6, .int (nI r))]) hx hb dX5_read_113 hl (k := 4) rfl (nI_1 (zRp (nn 2) n4 S i0 (3 * k + r))) (by decide) rfl (fun ls hl => ?_)
                      have hl : lv_has ls 8 [(4, .int (nI (zRp (nn 2) n4 S i0 (3 * k + r + 1)))), (7, .ref ((t 1) 0)), (0, .ref (b 0)), (2, .int (nI i0)), (3, .ref (b 7)), (5, .int (nI k)), (6, .int (nI r))] := by
                        rw [show nI (zRp (nn 2) n4 S i0 (3 * k + r + 1)) = nI (zRp (nn 2) n4 S i0 (3 * k + r) + 1) from (congrArg nI (show zRp (nn 2) n4 S i0 (3 * k + r + 1) = zRp (nn 2) n4 S i0 (3 * k + r) + 1 from (by show _ + _ = _; rw [if_pos c110])))]; exact hl
                      refine lv_iinc (v := nI (r + 1)) (lv' := [(6, .int (nI (r + 1))), (4, .int (nI (zRp (nn 2) n4 S i0 (3 * k + r + 1)))), (7, .ref ((t 1) 0)), (0, .ref (b 0)), (2, .int (nI i0)), (3, .ref (b 7)), (5, .int (nI k))]) hx hb dX5_read_116 hl (k := 6) rfl (nI_1 r) (by decide) rfl (fun ls hl => ?_)
                      refine lv_goto (tgt := 65) hx hb dX5_read_119 (by decide) ?_
                      exact ih65 (r + 1) T3 lq (by omega) (by omega) _ _ _ hw (lv_sub hl [3, 4, 5, 1, 6, 0] rfl)
              exact loop65 (_ + 1) 0 U lj (Nat.lt_succ_self _) (Nat.zero_le _) _ _ _ hw (lv_sub hl [1, 2, 3, 4, 5, 0] rfl)
        exact loop55 (_ + 1) 0 T l1 (Nat.lt_succ_self _) (Nat.zero_le _) _ _ _ hw (lv_sub hl [3, 5, 2, 1, 0] rfl)
      · have c39 := zb_0.mp c39
        refine lv_aload_n hx hb dX5_read_42 rfl (lv_at hl 1 rfl) ?_
        refine lv_ldc (v := (-1000000001)) hx hb hown (hts _ ckX5_51) dX5_read_43 ?_
        refine zcVwi (r := (-1000000001)) hx hb hml hown hts hl.1 hK hE hA lkX5_52 (c_X5_found x b t S l0 T l1 K l2 ik fd tb tq bo so nn (-1000000001) 0 (by decide) (by decide)) ⟨Nat.le_of_ble_eq_true rfl, Nat.le_of_ble_eq_true rfl⟩ ⟨Nat.zero_le _, Nat.zero_le _⟩ hw 0 3 rfl rfl rfl rfl (Nat.le_of_ble_eq_true rfl) dX5_read_45 (fun H locs hw => ?_)
        have hw : zHw x A s.heap (zHW x b t S l0 T l1 K l2 ik (upd fd 0 (fd 0 + 1)) tb tq bo so nn) H locs := hw
        exact zFG.iret hx hb hr hlocks hQ hw rfl dX5_read_48 (by rw [show zm_read bo so nn S fd 2 h = ((-1000000001), zFd fd 0) from (by unfold zm_read; rw [if_pos (by decide), show zc (2 : Int32) = 2 from rfl, if_neg c21, if_neg c39])]; exact ⟨rfl, _, _, rfl⟩)
    · have c21 := zb_n0.mp c21
      refine lv_aload_n hx hb dX5_read_24 rfl (lv_at hl 1 rfl) ?_
      refine lv_ldc (v := (-1000000006)) hx hb hown (hts _ ckX5_231) dX5_read_25 ?_
      refine zcVwi (r := (-1000000006)) hx hb hml hown hts hl.1 hK hE hA lkX5_52 (c_X5_found x b t S l0 T l1 K l2 ik fd tb tq bo so nn (-1000000006) 5 (by decide) (by decide)) ⟨Nat.le_of_ble_eq_true rfl, Nat.le_of_ble_eq_true rfl⟩ ⟨Nat.zero_le _, Nat.zero_le _⟩ hw 0 3 rfl rfl rfl rfl (Nat.le_of_ble_eq_true rfl) dX5_read_27 (fun H locs hw => ?_)
      have hw : zHw x A s.heap (zHW x b t S l0 T l1 K l2 ik (upd fd 5 (fd 5 + 1)) tb tq bo so nn) H locs := hw
      exact zFG.iret hx hb hr hlocks hQ hw rfl dX5_read_30 (by rw [show zm_read bo so nn S fd 2 h = ((-1000000006), zFd fd 5) from (by unfold zm_read; rw [if_pos (by decide), show zc (2 : Int32) = 2 from rfl, if_pos c21])]; exact ⟨rfl, _, _, rfl⟩)
  · refine lv_aload_n hx hb dX5_read_0 rfl (lv_at hl 0 rfl) ?_
    refine lv_iload_n hx hb dX5_read_1 rfl (lv_at hl 1 rfl) ?_
    refine zcVwa hx hb hml hown hts hl.1 hK hE hA lkX5_219 (c_X5_sheetAt_3 x b t S l0 T l1 K l2 ik fd tb tq bo so nn) ⟨Nat.le_of_ble_eq_true rfl, Nat.le_of_ble_eq_true rfl⟩ ⟨Nat.zero_le _, Nat.zero_le _⟩ hw 0 3 rfl rfl rfl rfl (Nat.le_of_ble_eq_true rfl) dX5_read_2 (fun H locs hw => ?_)
    have hw : zHw x A s.heap (zHW x b t S l0 T l1 K l2 ik fd tb tq bo so nn) H locs := hw
    refine lv_astore_n (lv' := [(3, .ref (b 8)), (0, .ref (b 0)), (1, .int 3), (2, .int h)]) hx hb dX5_read_5 rfl hl (by decide) rfl (fun ls hl => ?_)
    refine lv_aload_n hx hb dX5_read_6 rfl (lv_at hl 0 rfl) ?_
    refine lv_ifnonnull (tgt := 17) hx hb dX5_read_7 (by decide) ?_
    refine lv_aload_n hx hb dX5_read_17 rfl (lv_at hl 0 rfl) ?_
    refine zcVmi (r := zb (bo 3 = 0)) (C1 := (zOW x b t ik fd ++ (zTW x (t 0) S l0 ++ (zTW x (t 1) T l1 ++ (zTW x (t 2) K l2 ++ (zPW x b tb tq ++ (zSH x (b 5) (b 9) (bo 0) (so 0) (nn 0) ++ (zSH x (b 6) (b 10) (bo 1) (so 1) (nn 1) ++ zSH x (b 7) (b 11) (bo 2) (so 2) (nn 2))))))))) (C2 := []) hx hb hml hown hts hl.1 hK hE hA lkX5_228 (c_X1_isMissing x (b 8) (b 12) (bo 3) (so 3) (nn 3) ) ⟨Nat.le_of_ble_eq_true rfl, Nat.le_of_ble_eq_true rfl⟩ ⟨Nat.zero_le _, Nat.zero_le _⟩ hw 0 0 rfl rfl rfl rfl (Nat.le_of_ble_eq_true rfl) dX5_read_18 (fun H locs hw => ?_)
    have hw : zHw x A s.heap (zHW x b t S l0 T l1 K l2 ik fd tb tq bo so nn) H locs := hw
    refine lv_if_eq (tgt := 31) hx hb dX5_read_21 (by decide) (fun c21 => ?_) (fun c21 => ?_)
    · have c21 := zb_0.mp c21
      refine lv_aload_n hx hb dX5_read_31 rfl (lv_at hl 1 rfl) ?_
      refine gfX5_10 hx hb hown hts hK hw 0 rfl rfl dX5_read_32 ?_
      refine lv_iload_n hx hb dX5_read_35 rfl (lv_at hl 3 rfl) ?_
      refine zcVmi (r := zb (0 ≤ h ∧ h < S 0 0)) (C1 := (zOW x b t ik fd)) (C2 := (zTW x (t 1) T l1 ++ (zTW x (t 2) K l2 ++ (zPW x b tb tq ++ (zSH x (b 5) (b 9) (bo 0) (so 0) (nn 0) ++ (zSH x (b 6) (b 10) (bo 1) (so 1) (nn 1) ++ (zSH x (b 7) (b 11) (bo 2) (so 2) (nn 2) ++ zSH x (b 8) (b 12) (bo 3) (so 3) (nn 3)))))))) hx hb hml hown hts hl.1 hK hE hA lkX5_95 (c_X3_has x (t 0) S l0 h) ⟨Nat.le_of_ble_eq_true rfl, Nat.le_of_ble_eq_true rfl⟩ ⟨Nat.zero_le _, Nat.zero_le _⟩ hw 0 2 rfl rfl rfl rfl (Nat.le_of_ble_eq_true rfl) dX5_read_36 (fun H locs hw => ?_)
      have hw : zHw x A s.heap (zHW x b t S l0 T l1 K l2 ik fd tb tq bo so nn) H locs := hw
      refine lv_if_ne (tgt := 49) hx hb dX5_read_39 (by decide) (fun c39 => ?_) (fun c39 => ?_)
      · have c39 := zb_n0.mp c39
        obtain ⟨-, n4, hn4, hs4⟩ := hS 3 (by decide)
        obtain ⟨i0, hi08, hi0N, rfl⟩ := zH_nat hI c39
        refine lv_iconst (v := 0) hx hb dX5_read_49 (by decide) ?_
        refine lv_istore (lv' := [(4, .int 0), (3, .ref (b 8)), (0, .ref (b 0)), (1, .int 3), (2, .int (nI i0))]) hx hb dX5_read_50 hl (by decide) rfl (fun ls hl => ?_)
        refine lv_iconst (v := 0) hx hb dX5_read_52 (by decide) ?_
        refine lv_istore (lv' := [(5, .int 0), (4, .int 0), (3, .ref (b 8)), (0, .ref (b 0)), (1, .int 3), (2, .int (nI i0))]) hx hb dX5_read_53 hl (by decide) rfl (fun ls hl => ?_)
        have loop55 : ∀ (dd : Nat) (k : Nat) (U : zT) (lj : Int32), 6 - k < dd → (hk : k ≤ 6) → ∀ (H : Heap) (locs : List Loc) (ls : Array Slot), zHw x A s.heap (zHW x b t S l0 U lj K l2 ik fd tb tq bo so nn) H locs → lv_has ls 8 [(0, .ref (b 0)), (2, .int (nI i0)), (3, .ref (b 8)), (4, .int (nI (zRp (nn 3) n4 S i0 (3 * k)))), (5, .int (nI k))] → W p x.1 e (zRM 6) s m ar below meth c H locs 0 0 Q (F0 m 55 ls []) := by
          intro dd
          induction dd with
          | zero => intro k U lj hm; exact absurd hm (Nat.not_lt_zero _)
          | succ dd ih55 =>
            intro k U lj hm hk H locs ls hw hl
            refine lv_iload hx hb dX5_read_55 (lv_at hl 4 rfl) ?_
            refine lv_bipush (v := 6) hx hb dX5_read_57 (by decide) ?_
            refine lv_icmp_ge (tgt := 128) hx hb dX5_read_59 (by decide) (fun c59 => ?_) (fun c59 => ?_)
            · have hke : k = 6 := zke (v := 6) rfl (by omega) hk c59
              refine lv_iload hx hb dX5_read_128 (lv_at hl 3 rfl) ?_
              exact zFG.iret hx hb hr hlocks hQ hw rfl dX5_read_130 (by rw [show zm_read bo so nn S fd 3 (nI i0) = (nI (zRp (nn 3) n4 S i0 (3 * k)), fd) from (by unfold zm_read; rw [if_pos (by decide), show zc (3 : Int32) = 3 from rfl, if_neg c21, if_pos c39, zc_nI (show i0 < 2147483648 by omega), hs4, zc_nI (show n4 < 2147483648 by omega), hke])]; exact ⟨rfl, _, _, rfl⟩)
            · have hkn : k < 6 := zkn (v := 6) rfl (by omega) hk c59
              refine lv_iconst (v := 0) hx hb dX5_read_62 (by decide) ?_
              refine lv_istore (lv' := [(6, .int 0), (0, .ref (b 0)), (2, .int (nI i0)), (3, .ref (b 8)), (4, .int (nI (zRp (nn 3) n4 S i0 (3 * k)))), (5, .int (nI k))]) hx hb dX5_read_63 hl (by decide) rfl (fun ls hl => ?_)
              have loop65 : ∀ (dd : Nat) (r : Nat) (U : zT) (lj : Int32), 3 - r < dd → (hr3 : r ≤ 3) → ∀ (H : Heap) (locs : List Loc) (ls : Array Slot), zHw x A s.heap (zHW x b t S l0 U lj K l2 ik fd tb tq bo so nn) H locs → lv_has ls 8 [(0, .ref (b 0)), (2, .int (nI i0)), (3, .ref (b 8)), (4, .int (nI (zRp (nn 3) n4 S i0 (3 * k + r)))), (5, .int (nI k)), (6, .int (nI r))] → W p x.1 e (zRM 6) s m ar below meth c H locs 0 0 Q (F0 m 65 ls []) := by
                intro dd
                induction dd with
                | zero => intro r U lj hm; exact absurd hm (Nat.not_lt_zero _)
                | succ dd ih65 =>
                  intro r U lj hm hr3 H locs ls hw hl
                  refine lv_iload hx hb dX5_read_65 (lv_at hl 5 rfl) ?_
                  refine lv_iconst (v := 3) hx hb dX5_read_67 (by decide) ?_
                  refine lv_icmp_ge (tgt := 122) hx hb dX5_read_68 (by decide) (fun c68 => ?_) (fun c68 => ?_)
                  · have hre : r = 3 := zke (v := 3) rfl (by omega) hr3 c68
                    have hl : lv_has ls 8 [(0, .ref (b 0)), (2, .int (nI i0)), (3, .ref (b 8)), (4, .int (nI (zRp (nn 3) n4 S i0 (3 * (k + 1))))), (5, .int (nI k)), (6, .int (nI r))] := by
                      rw [show nI (zRp (nn 3) n4 S i0 (3 * (k + 1))) = nI (zRp (nn 3) n4 S i0 (3 * k + r)) from (by rw [hre]; rfl)]; exact hl
                    refine lv_iinc (v := nI (k + 1)) (lv' := [(5, .int (nI (k + 1))), (0, .ref (b 0)), (2, .int (nI i0)), (3, .ref (b 8)), (4, .int (nI (zRp (nn 3) n4 S i0 (3 * (k + 1))))), (6, .int (nI r))]) hx hb dX5_read_122 hl (k := 4) rfl (nI_1 k) (by decide) rfl (fun ls hl => ?_)
                    refine lv_goto (tgt := 55) hx hb dX5_read_125 (by decide) ?_
                    exact ih55 (k + 1) U lj (by omega) (by omega) _ _ _ hw (lv_sub hl [1, 2, 3, 4, 0] rfl)
                  · have hrn : r < 3 := zkn (v := 3) rfl (by omega) hr3 c68
                    have hpa : zU (zU (zU S 3 i0 (nI k)) 6 i0 (nI r)) 7 i0 0 = zpa S i0 (3 * k + r) := by unfold zpa; rw [show (3 * k + r) / 3 = k from by omega, show (3 * k + r) % 3 = r from by omega]
                    refine lv_aload_n hx hb dX5_read_71 rfl (lv_at hl 0 rfl) ?_
                    refine zcVwa hx hb hml hown hts hl.1 hK hE hA lkX5_171 (c_X5_asItIs x b t S l0 U lj K l2 ik fd tb tq bo so nn) ⟨Nat.le_of_ble_eq_true rfl, Nat.le_of_ble_eq_true rfl⟩ ⟨Nat.zero_le _, Nat.zero_le _⟩ hw 0 3 rfl rfl rfl rfl (Nat.le_of_ble_eq_true rfl) dX5_read_72 (fun H locs hw => ?_)
                    have hw : zHw x A s.heap (zHW x b t S l0 S 1000 K l2 ik fd tb tq bo so nn) H locs := hw
                    refine lv_astore (lv' := [(7, .ref ((t 1) 0)), (0, .ref (b 0)), (2, .int (nI i0)), (3, .ref (b 8)), (4, .int (nI (zRp (nn 3) n4 S i0 (3 * k + r)))), (5, .int (nI k)), (6, .int (nI r))]) hx hb dX5_read_75 hl (by decide) rfl (fun ls hl => ?_)
                    refine lv_aload hx hb dX5_read_77 (lv_at hl 0 rfl) ?_
                    refine gfX5_104 hx hb hown hts hK hw 12 rfl rfl dX5_read_79 ?_
                    refine lv_iload_n hx hb dX5_read_82 rfl (lv_at hl 2 rfl) ?_
                    refine lv_iload hx hb dX5_read_83 (lv_at hl 5 rfl) ?_
                    refine zias hx hb hK hw 15 0 i0 rfl rfl rfl (by omega) (by decide) dX5_read_85 (fun H locs hw => ?_)
                    have hw : zHw x A s.heap (zHW x b t S l0 (zU S 3 i0 (nI k)) 1000 K l2 ik fd tb tq bo so nn) H locs := hw
                    refine lv_aload hx hb dX5_read_86 (lv_at hl 0 rfl) ?_
                    refine gfX5_127 hx hb hown hts hK hw 12 rfl rfl dX5_read_88 ?_
                    refine lv_iload_n hx hb dX5_read_91 rfl (lv_at hl 2 rfl) ?_
                    refine lv_iload hx hb dX5_read_92 (lv_at hl 6 rfl) ?_
                    refine zias hx hb hK hw 18 0 i0 rfl rfl rfl (by omega) (by decide) dX5_read_94 (fun H locs hw => ?_)
                    have hw : zHw x A s.heap (zHW x b t S l0 (zU (zU S 3 i0 (nI k)) 6 i0 (nI r)) 1000 K l2 ik fd tb tq bo so nn) H locs := hw
                    refine lv_aload hx hb dX5_read_95 (lv_at hl 0 rfl) ?_
                    refine gfX5_256 hx hb hown hts hK hw 12 rfl rfl dX5_read_97 ?_
                    refine lv_iload_n hx hb dX5_read_100 rfl (lv_at hl 2 rfl) ?_
                    refine lv_iconst (v := 0) hx hb dX5_read_101 (by decide) ?_
                    refine zias hx hb hK hw 19 0 i0 rfl rfl rfl (by omega) (by decide) dX5_read_102 (fun H locs hw => ?_)
                    have hw : zHw x A s.heap (zHW x b t S l0 (zU (zU (zU S 3 i0 (nI k)) 6 i0 (nI r)) 7 i0 0) 1000 K l2 ik fd tb tq bo so nn) H locs := hw
                    have hw : zHw x A s.heap (zHW x b t S l0 (zpa S i0 (3 * k + r)) 1000 K l2 ik fd tb tq bo so nn) H locs := hw.re (by rw [hpa])
                    refine lv_aload hx hb dX5_read_103 (lv_at hl 0 rfl) ?_
                    refine lv_iload_n hx hb dX5_read_105 rfl (lv_at hl 2 rfl) ?_
                    refine lv_aload_n hx hb dX5_read_106 rfl (lv_at hl 3 rfl) ?_
                    have hw := hw.pick (ws' := zOW x b t ik fd ++ ((zTW x (t 1) (zpa S i0 (3 * k + r)) 1000 ++ zSH x (b 8) (b 12) (bo 3) (so 3) (nn 3)) ++ (zTW x (t 0) S l0 ++ (zTW x (t 2) K l2 ++ (zPW x b tb tq ++ (zSH x (b 5) (b 9) (bo 0) (so 0) (nn 0) ++ (zSH x (b 6) (b 10) (bo 1) (so 1) (nn 1) ++ zSH x (b 7) (b 11) (bo 2) (so 2) (nn 2)))))))) [0, 1, 2, 12, 13, 14, 15, 16, 17, 18, 19, 20, 38, 39, 3, 4, 5, 6, 7, 8, 9, 10, 11, 21, 22, 23, 24, 25, 26, 27, 28, 29, 30, 31, 32, 33, 34, 35, 36, 37] (by decide) rfl
                    refine zcSm (C1 := (zOW x b t ik fd)) (C2 := (zTW x (t 0) S l0 ++ (zTW x (t 2) K l2 ++ (zPW x b tb tq ++ (zSH x (b 5) (b 9) (bo 0) (so 0) (nn 0) ++ (zSH x (b 6) (b 10) (bo 1) (so 1) (nn 1) ++ zSH x (b 7) (b 11) (bo 2) (so 2) (nn 2))))))) hx hb hml hown hts hl.1 hK hE hA lkX5_259 (c_X5_growsAs x (t 1) (zpa S i0 (3 * k + r)) 1000 (b 8) (b 12) (bo 3) (so 3) (nn 3) i0 n4 (zpa_inv hI (by omega)) (by omega) hs4 hn4) ⟨Nat.le_of_ble_eq_true rfl, Nat.le_of_ble_eq_true rfl⟩ ⟨Nat.zero_le _, Nat.zero_le _⟩ hw rfl rfl (Nat.le_of_ble_eq_true rfl) dX5_read_107 (fun vv uu H locs hp hw => ?_)
                    obtain ⟨rfl, T3, lq, rfl⟩ := hp
                    have hw : zHw x A s.heap (zHW x b t S l0 T3 lq K l2 ik fd tb tq bo so nn) H locs := hw.pick [0, 1, 2, 14, 15, 16, 17, 18, 19, 20, 21, 22, 3, 4, 5, 6, 7, 8, 9, 10, 11, 23, 24, 25, 26, 27, 28, 29, 30, 31, 32, 33, 34, 35, 36, 37, 38, 39, 12, 13] (by decide) rfl
                    refine W.eq (g2 := F0 m 110 ls [.int (zb (zIb (nn 3) i0 n4 0 (zpa S i0 (3 * k + r)) = true))]) rfl ?_
                    have hw : zHw x A s.heap (zHW x b t S l0 T3 lq K l2 ik fd tb tq bo so nn) H locs := hw
                    refine lv_if_eq (tgt := 116) hx hb dX5_read_110 (by decide) (fun c110 => ?_) (fun c110 => ?_)
                    · have c110 := zb_0.mp c110
                      have hl : lv_has ls 8 [(7, .ref ((t 1) 0)), (0, .ref (b 0)), (2, .int (nI i0)), (3, .ref (b 8)), (4, .int (nI (zRp (nn 3) n4 S i0 (3 * k + r + 1)))), (5, .int (nI k)), (6, .int (nI r))] := by
                        rw [show nI (zRp (nn 3) n4 S i0 (3 * k + r + 1)) = nI (zRp (nn 3) n4 S i0 (3 * k + r)) from (congrArg nI (show zRp (nn 3) n4 S i0 (3 * k + r + 1) = zRp (nn 3) n4 S i0 (3 * k + r) from (by show _ + _ = _; rw [if_neg c110, Nat.add_zero])))]; exact hl
                      refine lv_iinc (v := nI (r + 1)) (lv' := [(6, .int (nI (r + 1))), (7, .ref ((t 1) 0)), (0, .ref (b 0)), (2, .int (nI i0)), (3, .ref (b 8)), (4, .int (nI (zRp (nn 3) n4 S i0 (3 * k + r + 1)))), (5, .int (nI k))]) hx hb dX5_read_116 hl (k := 6) rfl (nI_1 r) (by decide) rfl (fun ls hl => ?_)
                      refine lv_goto (tgt := 65) hx hb dX5_read_119 (by decide) ?_
                      exact ih65 (r + 1) T3 lq (by omega) (by omega) _ _ _ hw (lv_sub hl [2, 3, 4, 5, 6, 0] rfl)
                    · have c110 := zb_n0.mp c110
                      refine lv_iinc (v := nI (zRp (nn 3) n4 S i0 (3 * k + r) + 1)) (lv' := [(4, .int (nI (zRp (nn 3) n4 S i0 (3 * k + r) + 1))), (7, .ref ((t 1) 0)), (0, .ref (b 0)), (2, .int (nI i0)), (3, .ref (b 8)), (5, .int (nI k)), (6, .int (nI r))]) hx hb dX5_read_113 hl (k := 4) rfl (nI_1 (zRp (nn 3) n4 S i0 (3 * k + r))) (by decide) rfl (fun ls hl => ?_)
                      have hl : lv_has ls 8 [(4, .int (nI (zRp (nn 3) n4 S i0 (3 * k + r + 1)))), (7, .ref ((t 1) 0)), (0, .ref (b 0)), (2, .int (nI i0)), (3, .ref (b 8)), (5, .int (nI k)), (6, .int (nI r))] := by
                        rw [show nI (zRp (nn 3) n4 S i0 (3 * k + r + 1)) = nI (zRp (nn 3) n4 S i0 (3 * k + r) + 1) from (congrArg nI (show zRp (nn 3) n4 S i0 (3 * k + r + 1) = zRp (nn 3) n4 S i0 (3 * k + r) + 1 from (by show _ + _ = _; rw [if_pos c110])))]; exact hl
                      refine lv_iinc (v := nI (r + 1)) (lv' := [(6, .int (nI (r + 1))), (4, .int (nI (zRp (nn 3) n4 S i0 (3 * k + r + 1)))), (7, .ref ((t 1) 0)), (0, .ref (b 0)), (2, .int (nI i0)), (3, .ref (b 8)), (5, .int (nI k))]) hx hb dX5_read_116 hl (k := 6) rfl (nI_1 r) (by decide) rfl (fun ls hl => ?_)
                      refine lv_goto (tgt := 65) hx hb dX5_read_119 (by decide) ?_
                      exact ih65 (r + 1) T3 lq (by omega) (by omega) _ _ _ hw (lv_sub hl [3, 4, 5, 1, 6, 0] rfl)
              exact loop65 (_ + 1) 0 U lj (Nat.lt_succ_self _) (Nat.zero_le _) _ _ _ hw (lv_sub hl [1, 2, 3, 4, 5, 0] rfl)
        exact loop55 (_ + 1) 0 T l1 (Nat.lt_succ_self _) (Nat.zero_le _) _ _ _ hw (lv_sub hl [3, 5, 2, 1, 0] rfl)
      · have c39 := zb_0.mp c39
        refine lv_aload_n hx hb dX5_read_42 rfl (lv_at hl 1 rfl) ?_
        refine lv_ldc (v := (-1000000001)) hx hb hown (hts _ ckX5_51) dX5_read_43 ?_
        refine zcVwi (r := (-1000000001)) hx hb hml hown hts hl.1 hK hE hA lkX5_52 (c_X5_found x b t S l0 T l1 K l2 ik fd tb tq bo so nn (-1000000001) 0 (by decide) (by decide)) ⟨Nat.le_of_ble_eq_true rfl, Nat.le_of_ble_eq_true rfl⟩ ⟨Nat.zero_le _, Nat.zero_le _⟩ hw 0 3 rfl rfl rfl rfl (Nat.le_of_ble_eq_true rfl) dX5_read_45 (fun H locs hw => ?_)
        have hw : zHw x A s.heap (zHW x b t S l0 T l1 K l2 ik (upd fd 0 (fd 0 + 1)) tb tq bo so nn) H locs := hw
        exact zFG.iret hx hb hr hlocks hQ hw rfl dX5_read_48 (by rw [show zm_read bo so nn S fd 3 h = ((-1000000001), zFd fd 0) from (by unfold zm_read; rw [if_pos (by decide), show zc (3 : Int32) = 3 from rfl, if_neg c21, if_neg c39])]; exact ⟨rfl, _, _, rfl⟩)
    · have c21 := zb_n0.mp c21
      refine lv_aload_n hx hb dX5_read_24 rfl (lv_at hl 1 rfl) ?_
      refine lv_ldc (v := (-1000000006)) hx hb hown (hts _ ckX5_231) dX5_read_25 ?_
      refine zcVwi (r := (-1000000006)) hx hb hml hown hts hl.1 hK hE hA lkX5_52 (c_X5_found x b t S l0 T l1 K l2 ik fd tb tq bo so nn (-1000000006) 5 (by decide) (by decide)) ⟨Nat.le_of_ble_eq_true rfl, Nat.le_of_ble_eq_true rfl⟩ ⟨Nat.zero_le _, Nat.zero_le _⟩ hw 0 3 rfl rfl rfl rfl (Nat.le_of_ble_eq_true rfl) dX5_read_27 (fun H locs hw => ?_)
      have hw : zHw x A s.heap (zHW x b t S l0 T l1 K l2 ik (upd fd 5 (fd 5 + 1)) tb tq bo so nn) H locs := hw
      exact zFG.iret hx hb hr hlocks hQ hw rfl dX5_read_30 (by rw [show zm_read bo so nn S fd 3 h = ((-1000000006), zFd fd 5) from (by unfold zm_read; rw [if_pos (by decide), show zc (3 : Int32) = 3 from rfl, if_pos c21])]; exact ⟨rfl, _, _, rfl⟩)
  · refine lv_aload_n hx hb dX5_read_0 rfl (lv_at hl 0 rfl) ?_
    refine lv_iload_n hx hb dX5_read_1 rfl (lv_at hl 1 rfl) ?_
    refine zcVwa hx hb hml hown hts hl.1 hK hE hA lkX5_219 (c_X5_sheetAt_no x b t S l0 T l1 K l2 ik fd tb tq bo so nn y hno) ⟨Nat.le_of_ble_eq_true rfl, Nat.le_of_ble_eq_true rfl⟩ ⟨Nat.zero_le _, Nat.zero_le _⟩ hw 0 3 rfl rfl rfl rfl (Nat.le_of_ble_eq_true rfl) dX5_read_2 (fun H locs hw => ?_)
    have hw : zHw x A s.heap (zHW x b t S l0 T l1 K l2 ik fd tb tq bo so nn) H locs := hw
    refine lv_astore_nN (lv' := [(3, Value.null), (0, .ref (b 0)), (1, .int y), (2, .int h)]) hx hb dX5_read_5 rfl hl (by decide) rfl (fun ls hl => ?_)
    refine lv_aload_nN hx hb dX5_read_6 rfl (lv_at hl 0 rfl) ?_
    refine lv_ifnonnullN hx hb dX5_read_7 ?_
    refine lv_aload_n hx hb dX5_read_10 rfl (lv_at hl 1 rfl) ?_
    refine lv_ldc (v := (-1000000001)) hx hb hown (hts _ ckX5_51) dX5_read_11 ?_
    refine zcVwi (r := (-1000000001)) hx hb hml hown hts hl.1 hK hE hA lkX5_52 (c_X5_found x b t S l0 T l1 K l2 ik fd tb tq bo so nn (-1000000001) 0 (by decide) (by decide)) ⟨Nat.le_of_ble_eq_true rfl, Nat.le_of_ble_eq_true rfl⟩ ⟨Nat.zero_le _, Nat.zero_le _⟩ hw 0 3 rfl rfl rfl rfl (Nat.le_of_ble_eq_true rfl) dX5_read_13 (fun H locs hw => ?_)
    have hw : zHw x A s.heap (zHW x b t S l0 T l1 K l2 ik (upd fd 0 (fd 0 + 1)) tb tq bo so nn) H locs := hw
    exact zFG.iret hx hb hr hlocks hQ hw rfl dX5_read_16 (by rw [show zm_read bo so nn S fd y h = ((-1000000001), zFd fd 0) from (by unfold zm_read; rw [if_neg hno])]; exact ⟨rfl, _, _, rfl⟩)
