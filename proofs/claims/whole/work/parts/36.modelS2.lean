set_option maxHeartbeats 4000000 in
set_option maxRecDepth 100000 in
theorem c_X6_lays (x : zX) (a : Nat → Nat) (q : Nat → Int32) (g : zT) (nn : zNN) (mv : Nat → Int64) (S : zT) (y : Int32) (hS : zSI (g 7) (g 8)) : zFG x mX6_lays 3 [.ref (a 0), .int y] (zMW x a q g (zNM nn mv) (zflat S)) (fun v' u' => v' = some (.int (zm_lays (g 7) (g 8) nn S (g 5) y).1) ∧ zPS x a q g ((zm_lays (g 7) (g 8) nn S (g 5) y).2.1) nn (g 7) (g 8) ((zm_lays (g 7) (g 8) nn S (g 5) y).2.2) u') := by
  refine zFG.start RX6 cX6_lays 6 (some .int) rfl rfl (by decide +kernel) (Nat.le_of_ble_eq_true rfl) ?_
  intro p e s m ar below meth c ls A Q hx hb hr hml hown hts hlocks hK hE hA hQ hl hw
  have hl : lv_has ls 6 [(0, .ref (a 0)), (1, .int y)] := hl
  have hw : zHw x A s.heap (zMW x a q g (zNM nn mv) (zflat S)) s.heap [] := hw
  rcases zcaseS y (g 7) with hno | ⟨j, hj, rfl, hz⟩ | ⟨j, hj, rfl, hz⟩
  · refine lv_aload_n hx hb dX6_lays_0 rfl (lv_at hl 0 rfl) ?_
    refine lv_iload_n hx hb dX6_lays_1 rfl (lv_at hl 1 rfl) ?_
    refine zcVwi (r := (-1000000001)) hx hb hml hown hts hl.1 hK hE hA lkX6_298 (c_X6_wrongSheet_no x a q g nn mv S y hno) ⟨Nat.le_of_ble_eq_true rfl, Nat.le_of_ble_eq_true rfl⟩ ⟨Nat.zero_le _, Nat.zero_le _⟩ hw 0 4 rfl rfl rfl rfl (Nat.le_of_ble_eq_true rfl) dX6_lays_2 (fun H locs hw => ?_)
    have hw : zHw x A s.heap (zMW x a q g (zNM nn mv) (zflat S)) H locs := hw
    refine lv_istore_n (lv' := [(2, .int (-1000000001)), (0, .ref (a 0)), (1, .int y)]) hx hb dX6_lays_5 rfl hl (by decide) rfl (fun ls hl => ?_)
    refine lv_iload_n hx hb dX6_lays_6 rfl (lv_at hl 0 rfl) ?_
    refine lv_if_eq (tgt := 16) hx hb dX6_lays_7 (by decide) (fun c7 => absurd c7 (by decide)) (fun c7 => ?_)
    refine lv_aload_n hx hb dX6_lays_10 rfl (lv_at hl 1 rfl) ?_
    refine lv_iload_n hx hb dX6_lays_11 rfl (lv_at hl 0 rfl) ?_
    refine zcVwi (r := (-1000000001)) hx hb hml hown hts hl.1 hK hE hA lkX6_64 (c_X6_finds x a q g (zNM nn mv) (zflat S) (-1000000001) 0 (by decide) (by decide)) ⟨Nat.le_of_ble_eq_true rfl, Nat.le_of_ble_eq_true rfl⟩ ⟨Nat.zero_le _, Nat.zero_le _⟩ hw 0 4 rfl rfl rfl rfl (Nat.le_of_ble_eq_true rfl) dX6_lays_12 (fun H locs hw => ?_)
    have hw : zHw x A s.heap (zMW x a q (zU g 5 0 (g 5 0 + 1)) (zNM nn mv) (zflat S)) H locs := hw
    exact zFG.iret hx hb hr hlocks hQ hw rfl dX6_lays_15 (by rw [show zm_lays (g 7) (g 8) nn S (g 5) y = ((-1000000001), S, zFd (g 5) 0) from (by unfold zm_lays; rw [if_neg hno])]; exact ⟨rfl, zPS.mk (zK1 g 0)⟩)
  · refine lv_aload_n hx hb dX6_lays_0 rfl (lv_at hl 0 rfl) ?_
    refine lv_iload_n hx hb dX6_lays_1 rfl (lv_at hl 1 rfl) ?_
    refine zcVwi (r := (-1000000006)) hx hb hml hown hts hl.1 hK hE hA lkX6_298 (c_X6_wrongSheet_0 x a q g nn mv S j hj hz) ⟨Nat.le_of_ble_eq_true rfl, Nat.le_of_ble_eq_true rfl⟩ ⟨Nat.zero_le _, Nat.zero_le _⟩ hw 0 4 rfl rfl rfl rfl (Nat.le_of_ble_eq_true rfl) dX6_lays_2 (fun H locs hw => ?_)
    have hw : zHw x A s.heap (zMW x a q g (zNM nn mv) (zflat S)) H locs := hw
    refine lv_istore_n (lv' := [(2, .int (-1000000006)), (0, .ref (a 0)), (1, .int (nI j))]) hx hb dX6_lays_5 rfl hl (by decide) rfl (fun ls hl => ?_)
    refine lv_iload_n hx hb dX6_lays_6 rfl (lv_at hl 0 rfl) ?_
    refine lv_if_eq (tgt := 16) hx hb dX6_lays_7 (by decide) (fun c7 => absurd c7 (by decide)) (fun c7 => ?_)
    refine lv_aload_n hx hb dX6_lays_10 rfl (lv_at hl 1 rfl) ?_
    refine lv_iload_n hx hb dX6_lays_11 rfl (lv_at hl 0 rfl) ?_
    refine zcVwi (r := (-1000000006)) hx hb hml hown hts hl.1 hK hE hA lkX6_64 (c_X6_finds x a q g (zNM nn mv) (zflat S) (-1000000006) 5 (by decide) (by decide)) ⟨Nat.le_of_ble_eq_true rfl, Nat.le_of_ble_eq_true rfl⟩ ⟨Nat.zero_le _, Nat.zero_le _⟩ hw 0 4 rfl rfl rfl rfl (Nat.le_of_ble_eq_true rfl) dX6_lays_12 (fun H locs hw => ?_)
    have hw : zHw x A s.heap (zMW x a q (zU g 5 5 (g 5 5 + 1)) (zNM nn mv) (zflat S)) H locs := hw
    exact zFG.iret hx hb hr hlocks hQ hw rfl dX6_lays_15 (by rw [show zm_lays (g 7) (g 8) nn S (g 5) (nI j) = ((-1000000006), S, zFd (g 5) 5) from (by unfold zm_lays; rw [if_pos (z4_of hj), zc_nI (show j < 2147483648 by omega), if_pos hz])]; exact ⟨rfl, zPS.mk (zK1 g 5)⟩)
  · refine lv_aload_n hx hb dX6_lays_0 rfl (lv_at hl 0 rfl) ?_
    refine lv_iload_n hx hb dX6_lays_1 rfl (lv_at hl 1 rfl) ?_
    refine zcVwi (r := 0) hx hb hml hown hts hl.1 hK hE hA lkX6_298 (c_X6_wrongSheet_1 x a q g nn mv S j hj hz) ⟨Nat.le_of_ble_eq_true rfl, Nat.le_of_ble_eq_true rfl⟩ ⟨Nat.zero_le _, Nat.zero_le _⟩ hw 0 4 rfl rfl rfl rfl (Nat.le_of_ble_eq_true rfl) dX6_lays_2 (fun H locs hw => ?_)
    have hw : zHw x A s.heap (zMW x a q g (zNM nn mv) (zflat S)) H locs := hw
    refine lv_istore_n (lv' := [(2, .int 0), (0, .ref (a 0)), (1, .int (nI j))]) hx hb dX6_lays_5 rfl hl (by decide) rfl (fun ls hl => ?_)
    refine lv_iload_n hx hb dX6_lays_6 rfl (lv_at hl 0 rfl) ?_
    refine lv_if_eq (tgt := 16) hx hb dX6_lays_7 (by decide) (fun c7 => ?_) (fun c7 => absurd (by decide) c7)
    obtain ⟨-, n4, hn4, hs4⟩ := hS j hj
    refine lv_iconst (v := 0) hx hb dX6_lays_16 (by decide) ?_
    refine lv_istore_n (lv' := [(3, .int 0), (2, .int 0), (0, .ref (a 0)), (1, .int (nI j))]) hx hb dX6_lays_17 rfl hl (by decide) rfl (fun ls hl => ?_)
    refine lv_iconst (v := 0) hx hb dX6_lays_18 (by decide) ?_
    refine lv_istore (lv' := [(4, .int 0), (3, .int 0), (2, .int 0), (0, .ref (a 0)), (1, .int (nI j))]) hx hb dX6_lays_19 hl (by decide) rfl (fun ls hl => ?_)
    have loop21 : ∀ (dd : Nat) (k : Nat), 6 - k < dd → (hk : k ≤ min n4 6) → ∀ (H : Heap) (locs : List Loc) (ls : Array Slot), zHw x A s.heap (zMW x a q g (zNM nn mv) (zflat ((zLy (nn j) S k).1))) H locs → lv_has ls 6 [(0, .ref (a 0)), (1, .int (nI j)), (3, .int (nI (zLy (nn j) S k).2)), (4, .int (nI k))] → W p x.1 e (zRM 3) s m ar below meth c H locs 0 0 Q (F0 m 21 ls []) := by
      intro dd
      induction dd with
      | zero => intro k hm; exact absurd hm (Nat.not_lt_zero _)
      | succ dd ih21 =>
        intro k hm hk H locs ls hw hl
        refine lv_iload hx hb dX6_lays_21 (lv_at hl 3 rfl) ?_
        refine lv_aload_n hx hb dX6_lays_23 rfl (lv_at hl 0 rfl) ?_
        refine gfX6_31 hx hb hown hts hK hw 0 rfl rfl dX6_lays_24 ?_
        refine lv_iload_n hx hb dX6_lays_27 rfl (lv_at hl 1 rfl) ?_
        refine zial hx hb hK hw 8 0 j rfl rfl rfl (by omega) (by decide) dX6_lays_28 ?_
        refine lv_icmp_ge (tgt := 122) hx hb dX6_lays_29 (by decide) (fun c29 => ?_) (fun c29 => ?_)
        · have hke : k = min n4 6 := by
            have h4 := zke hs4 (by omega) (show k ≤ n4 by omega) c29
            omega
          refine lv_iload_n hx hb dX6_lays_122 rfl (lv_at hl 2 rfl) ?_
          exact zFG.iret hx hb hr hlocks hQ hw rfl dX6_lays_123 (by rw [show zm_lays (g 7) (g 8) nn S (g 5) (nI j) = (nI (zLy (nn j) S k).2, (zLy (nn j) S k).1, g 5) from (by unfold zm_lays; rw [if_pos (z4_of hj), zc_nI (show j < 2147483648 by omega), if_neg hz, hs4, zml_of hn4, hke])]; exact ⟨rfl, zPS.mk (zK0 g)⟩)
        · have hk4 : k < n4 := zkn hs4 (by omega) (by omega) c29
          refine lv_iload hx hb dX6_lays_32 (lv_at hl 3 rfl) ?_
          refine lv_bipush (v := 6) hx hb dX6_lays_34 (by decide) ?_
          refine lv_icmp_ge (tgt := 122) hx hb dX6_lays_36 (by decide) (fun c36 => ?_) (fun c36 => ?_)
          · have hke : k = min n4 6 := by
              have h6 : k = 6 := zke (v := 6) rfl (by decide) (show k ≤ 6 by omega) c36
              omega
            refine lv_iload_n hx hb dX6_lays_122 rfl (lv_at hl 2 rfl) ?_
            exact zFG.iret hx hb hr hlocks hQ hw rfl dX6_lays_123 (by rw [show zm_lays (g 7) (g 8) nn S (g 5) (nI j) = (nI (zLy (nn j) S k).2, (zLy (nn j) S k).1, g 5) from (by unfold zm_lays; rw [if_pos (z4_of hj), zc_nI (show j < 2147483648 by omega), if_neg hz, hs4, zml_of hn4, hke])]; exact ⟨rfl, zPS.mk (zK0 g)⟩)
          · have hk6 : k < 6 := zkn (v := 6) rfl (by omega) (by omega) c36
            refine lv_aload_n hx hb dX6_lays_39 rfl (lv_at hl 0 rfl) ?_
            refine gfX6_34 hx hb hown hts hK hw 0 rfl rfl dX6_lays_40 ?_
            refine lv_bipush (v := 40) hx hb dX6_lays_43 (by decide) ?_
            refine lv_iload_n hx hb dX6_lays_45 rfl (lv_at hl 1 rfl) ?_
            refine lv_imul hx hb dX6_lays_46 ?_
            refine lv_iload hx hb dX6_lays_47 (lv_at hl 3 rfl) ?_
            refine lv_iadd hx hb dX6_lays_49 ?_
            refine zlal2 (v := nn j k) hx hb hK hw 9 1 (40 * j + k) rfl rfl (zix j k) (by omega) (by decide) dX6_lays_50 (zfl_at nn (by omega)) ?_
            refine lv_lconst (v := 0) hx hb dX6_lays_51 (by decide) ?_
            refine lv_ldc2 (v := 99) hx hb hown (hts _ ckX6_68) dX6_lays_52 ?_
            refine zcSwi (r := zb ((0 : Int64) ≤ nn j k ∧ nn j k ≤ 99)) hx hb hml hown hts hl.1 hK hE hA lkX6_48 (c_X6_in x (zMW x a q g (zNM nn mv) (zflat ((zLy (nn j) S k).1))) (nn j k) 0 99) ⟨Nat.le_of_ble_eq_true rfl, Nat.le_of_ble_eq_true rfl⟩ ⟨Nat.zero_le _, Nat.zero_le _⟩ hw rfl rfl (Nat.le_of_ble_eq_true rfl) dX6_lays_55 (fun H locs hw => ?_)
            have hw : zHw x A s.heap (zMW x a q g (zNM nn mv) (zflat ((zLy (nn j) S k).1))) H locs := hw
            refine lv_istore (lv' := [(5, .int (zb ((0 : Int64) ≤ nn j k ∧ nn j k ≤ 99))), (0, .ref (a 0)), (1, .int (nI j)), (3, .int (nI (zLy (nn j) S k).2)), (4, .int (nI k))]) hx hb dX6_lays_58 hl (by decide) rfl (fun ls hl => ?_)
            refine lv_aload_n hx hb dX6_lays_60 rfl (lv_at hl 1 rfl) ?_
            refine gfX6_7 hx hb hown hts hK hw 0 rfl rfl dX6_lays_61 ?_
            refine lv_iload hx hb dX6_lays_64 (lv_at hl 4 rfl) ?_
            refine lv_iconst (v := 0) hx hb dX6_lays_66 (by decide) ?_
            refine zcSwi (r := nI (7 + 2 * k + 0)) hx hb hml hown hts hl.1 hK hE hA lkX6_41 (c_X6_roadOf x (zMW x a q g (zNM nn mv) (zflat ((zLy (nn j) S k).1))) k 0) ⟨Nat.le_of_ble_eq_true rfl, Nat.le_of_ble_eq_true rfl⟩ ⟨Nat.zero_le _, Nat.zero_le _⟩ hw rfl rfl (Nat.le_of_ble_eq_true rfl) dX6_lays_67 (fun H locs hw => ?_)
            have hw : zHw x A s.heap (zMW x a q g (zNM nn mv) (zflat ((zLy (nn j) S k).1))) H locs := hw
            refine lv_iload hx hb dX6_lays_70 (lv_at hl 0 rfl) ?_
            refine lv_if_eq (tgt := 91) hx hb dX6_lays_72 (by decide) (fun c72 => ?_) (fun c72 => ?_)
            · have c72 := zb_0.mp c72
              have hly : zLy (nn j) S (k + 1) = _ := zLy_f c72
              refine lv_aload_n hx hb dX6_lays_91 rfl (lv_at hl 1 rfl) ?_
              refine gfX6_7 hx hb hown hts hK hw 0 rfl rfl dX6_lays_92 ?_
              refine lv_iload hx hb dX6_lays_95 (lv_at hl 4 rfl) ?_
              refine lv_iconst (v := 0) hx hb dX6_lays_97 (by decide) ?_
              refine zcSwi (r := nI (7 + 2 * k + 0)) hx hb hml hown hts hl.1 hK hE hA lkX6_41 (c_X6_roadOf x (zMW x a q g (zNM nn mv) (zflat ((zLy (nn j) S k).1))) k 0) ⟨Nat.le_of_ble_eq_true rfl, Nat.le_of_ble_eq_true rfl⟩ ⟨Nat.zero_le _, Nat.zero_le _⟩ hw rfl rfl (Nat.le_of_ble_eq_true rfl) dX6_lays_98 (fun H locs hw => ?_)
              have hw : zHw x A s.heap (zMW x a q g (zNM nn mv) (zflat ((zLy (nn j) S k).1))) H locs := hw
              refine zial2 (v := ((zLy (nn j) S k).1) 1 k) hx hb hK hw 1 0 (7 + 2 * k + 0) rfl rfl rfl (by omega) (by decide) dX6_lays_101 (zflat_ro ((zLy (nn j) S k).1) (by omega) (by omega)) ?_
              refine zias2 (f' := zflat (zU ((zLy (nn j) S k).1) 1 k (((zLy (nn j) S k).1) 1 k))) hx hb hK hw 1 0 (7 + 2 * k + 0) rfl rfl rfl (by omega) (by decide) dX6_lays_102 (zflat_uro ((zLy (nn j) S k).1) _ (by omega) (by omega)) (fun H locs hw => ?_)
              have hw : zHw x A s.heap (zMW x a q g (zNM nn mv) (zflat (zU ((zLy (nn j) S k).1) 1 k (((zLy (nn j) S k).1) 1 k)))) H locs := hw
              have hw : zHw x A s.heap (zMW x a q g (zNM nn mv) (zflat ((zLy (nn j) S (k + 1)).1))) H locs := hw.re (by rw [hly, zU_self])
              refine lv_iload_n hx hb dX6_lays_103 rfl (lv_at hl 3 rfl) ?_
              refine lv_iload hx hb dX6_lays_104 (lv_at hl 0 rfl) ?_
              refine lv_if_eq (tgt := 113) hx hb dX6_lays_106 (by decide) (fun c106 => ?_) (fun c106 => absurd (zb_0.mpr c72) c106)
              refine lv_iconst (v := 0) hx hb dX6_lays_113 (by decide) ?_
              refine lv_iadd hx hb dX6_lays_114 ?_
              refine lv_istore_n (lv' := [(3, .int ((nI (zLy (nn j) S k).2) + 0)), (5, .int (zb ((0 : Int64) ≤ nn j k ∧ nn j k ≤ 99))), (0, .ref (a 0)), (1, .int (nI j)), (4, .int (nI k))]) hx hb dX6_lays_115 rfl hl (by decide) rfl (fun ls hl => ?_)
              have hl : lv_has ls 6 [(3, .int (nI (zLy (nn j) S (k + 1)).2)), (5, .int (zb ((0 : Int64) ≤ nn j k ∧ nn j k ≤ 99))), (0, .ref (a 0)), (1, .int (nI j)), (4, .int (nI k))] := by
                rw [show nI (zLy (nn j) S (k + 1)).2 = (nI (zLy (nn j) S k).2) + 0 from (by rw [hly, zadd0])]; exact hl
              refine lv_iinc (v := nI (k + 1)) (lv' := [(4, .int (nI (k + 1))), (3, .int (nI (zLy (nn j) S (k + 1)).2)), (5, .int (zb ((0 : Int64) ≤ nn j k ∧ nn j k ≤ 99))), (0, .ref (a 0)), (1, .int (nI j))]) hx hb dX6_lays_116 hl (k := 4) rfl (nI_1 k) (by decide) rfl (fun ls hl => ?_)
              refine lv_goto (tgt := 21) hx hb dX6_lays_119 (by decide) ?_
              exact ih21 (k + 1) (by omega) (by omega) _ _ _ hw (lv_sub hl [3, 4, 1, 0] rfl)
            · have c72 := zb_n0.mp c72
              have hly : zLy (nn j) S (k + 1) = _ := zLy_t c72
              refine lv_aload_n hx hb dX6_lays_75 rfl (lv_at hl 1 rfl) ?_
              refine gfX6_34 hx hb hown hts hK hw 0 rfl rfl dX6_lays_76 ?_
              refine lv_bipush (v := 40) hx hb dX6_lays_79 (by decide) ?_
              refine lv_iload_n hx hb dX6_lays_81 rfl (lv_at hl 2 rfl) ?_
              refine lv_imul hx hb dX6_lays_82 ?_
              refine lv_iload hx hb dX6_lays_83 (lv_at hl 4 rfl) ?_
              refine lv_iadd hx hb dX6_lays_85 ?_
              refine zlal2 (v := nn j k) hx hb hK hw 9 1 (40 * j + k) rfl rfl (zix j k) (by omega) (by decide) dX6_lays_86 (zfl_at nn (by omega)) ?_
              refine lv_l2i hx hb dX6_lays_87 rfl ?_
              refine lv_goto (tgt := 102) hx hb dX6_lays_88 (by decide) ?_
              refine zias2 (f' := zflat (zU ((zLy (nn j) S k).1) 1 k ((nn j k).toInt32))) hx hb hK hw 1 0 (7 + 2 * k + 0) rfl rfl rfl (by omega) (by decide) dX6_lays_102 (zflat_uro ((zLy (nn j) S k).1) _ (by omega) (by omega)) (fun H locs hw => ?_)
              have hw : zHw x A s.heap (zMW x a q g (zNM nn mv) (zflat (zU ((zLy (nn j) S k).1) 1 k ((nn j k).toInt32)))) H locs := hw
              have hw : zHw x A s.heap (zMW x a q g (zNM nn mv) (zflat ((zLy (nn j) S (k + 1)).1))) H locs := hw.re (by rw [hly])
              refine lv_iload_n hx hb dX6_lays_103 rfl (lv_at hl 3 rfl) ?_
              refine lv_iload hx hb dX6_lays_104 (lv_at hl 0 rfl) ?_
              refine lv_if_eq (tgt := 113) hx hb dX6_lays_106 (by decide) (fun c106 => absurd c106 (zb_n0.mpr c72)) (fun c106 => ?_)
              refine lv_iconst (v := 1) hx hb dX6_lays_109 (by decide) ?_
              refine lv_goto (tgt := 114) hx hb dX6_lays_110 (by decide) ?_
              refine lv_iadd hx hb dX6_lays_114 ?_
              refine lv_istore_n (lv' := [(3, .int ((nI (zLy (nn j) S k).2) + 1)), (5, .int (zb ((0 : Int64) ≤ nn j k ∧ nn j k ≤ 99))), (0, .ref (a 0)), (1, .int (nI j)), (4, .int (nI k))]) hx hb dX6_lays_115 rfl hl (by decide) rfl (fun ls hl => ?_)
              have hl : lv_has ls 6 [(3, .int (nI (zLy (nn j) S (k + 1)).2)), (5, .int (zb ((0 : Int64) ≤ nn j k ∧ nn j k ≤ 99))), (0, .ref (a 0)), (1, .int (nI j)), (4, .int (nI k))] := by
                rw [show nI (zLy (nn j) S (k + 1)).2 = (nI (zLy (nn j) S k).2) + 1 from (by rw [hly]; exact (nI_1 _).symm)]; exact hl
              refine lv_iinc (v := nI (k + 1)) (lv' := [(4, .int (nI (k + 1))), (3, .int (nI (zLy (nn j) S (k + 1)).2)), (5, .int (zb ((0 : Int64) ≤ nn j k ∧ nn j k ≤ 99))), (0, .ref (a 0)), (1, .int (nI j))]) hx hb dX6_lays_116 hl (k := 4) rfl (nI_1 k) (by decide) rfl (fun ls hl => ?_)
              refine lv_goto (tgt := 21) hx hb dX6_lays_119 (by decide) ?_
              exact ih21 (k + 1) (by omega) (by omega) _ _ _ hw (lv_sub hl [3, 4, 1, 0] rfl)
    exact loop21 (_ + 1) 0 (Nat.lt_succ_self _) (Nat.zero_le _) _ _ _ hw (lv_sub hl [3, 4, 1, 0] rfl)

set_option maxHeartbeats 4000000 in
set_option maxRecDepth 100000 in
theorem c_X6_wrongBook_no (x : zX) (a : Nat → Nat) (q : Nat → Int32) (g : zT) (nn : zNN) (mv : Nat → Int64) (S : zT) (y h : Int32) (hno : ¬ z4 y) : zFF x mX6_wrongBook 3 [.ref (a 0), .int y, .int h] (zMW x a q g (zNM nn mv) (zflat S)) (some (.int (-1000000001))) (zMW x a q g (zNM nn mv) (zflat S)) := by
  refine zFG.start RX6 cX6_wrongBook 4 (some .int) rfl rfl (by decide +kernel) (Nat.le_of_ble_eq_true rfl) ?_
  intro p e s m ar below meth c ls A Q hx hb hr hml hown hts hlocks hK hE hA hQ hl hw
  have hl : lv_has ls 4 [(0, .ref (a 0)), (1, .int y), (2, .int h)] := hl
  have hw : zHw x A s.heap (zMW x a q g (zNM nn mv) (zflat S)) s.heap [] := hw
  refine lv_aload_n hx hb dX6_wrongBook_0 rfl (lv_at hl 0 rfl) ?_
  refine lv_iload_n hx hb dX6_wrongBook_1 rfl (lv_at hl 1 rfl) ?_
  refine zcVwi (r := (-1000000001)) hx hb hml hown hts hl.1 hK hE hA lkX6_298 (c_X6_wrongSheet_no x a q g nn mv S y hno) ⟨Nat.le_of_ble_eq_true rfl, Nat.le_of_ble_eq_true rfl⟩ ⟨Nat.zero_le _, Nat.zero_le _⟩ hw 0 4 rfl rfl rfl rfl (Nat.le_of_ble_eq_true rfl) dX6_wrongBook_2 (fun H locs hw => ?_)
  have hw : zHw x A s.heap (zMW x a q g (zNM nn mv) (zflat S)) H locs := hw
  refine lv_istore_n (lv' := [(3, .int (-1000000001)), (0, .ref (a 0)), (1, .int y), (2, .int h)]) hx hb dX6_wrongBook_5 rfl hl (by decide) rfl (fun ls hl => ?_)
  refine lv_iload_n hx hb dX6_wrongBook_6 rfl (lv_at hl 0 rfl) ?_
  refine lv_if_eq (tgt := 14) hx hb dX6_wrongBook_7 (by decide) (fun c7 => absurd c7 (by decide)) (fun c7 => ?_)
  refine lv_iload_n hx hb dX6_wrongBook_10 rfl (lv_at hl 0 rfl) ?_
  refine lv_goto (tgt := 28) hx hb dX6_wrongBook_11 (by decide) ?_
  exact zFG.iret hx hb hr hlocks hQ hw rfl dX6_wrongBook_28 ⟨rfl, rfl⟩

set_option maxHeartbeats 4000000 in
set_option maxRecDepth 100000 in
theorem c_X6_wrongBook_0 (x : zX) (a : Nat → Nat) (q : Nat → Int32) (g : zT) (nn : zNN) (mv : Nat → Int64) (S : zT) (j : Nat) (h : Int32) (hj : j < 4) (hz : g 7 j = 0) : zFF x mX6_wrongBook 3 [.ref (a 0), .int (nI j), .int h] (zMW x a q g (zNM nn mv) (zflat S)) (some (.int (-1000000006))) (zMW x a q g (zNM nn mv) (zflat S)) := by
  refine zFG.start RX6 cX6_wrongBook 4 (some .int) rfl rfl (by decide +kernel) (Nat.le_of_ble_eq_true rfl) ?_
  intro p e s m ar below meth c ls A Q hx hb hr hml hown hts hlocks hK hE hA hQ hl hw
  have hl : lv_has ls 4 [(0, .ref (a 0)), (1, .int (nI j)), (2, .int h)] := hl
  have hw : zHw x A s.heap (zMW x a q g (zNM nn mv) (zflat S)) s.heap [] := hw
  refine lv_aload_n hx hb dX6_wrongBook_0 rfl (lv_at hl 0 rfl) ?_
  refine lv_iload_n hx hb dX6_wrongBook_1 rfl (lv_at hl 1 rfl) ?_
  refine zcVwi (r := (-1000000006)) hx hb hml hown hts hl.1 hK hE hA lkX6_298 (c_X6_wrongSheet_0 x a q g nn mv S j hj hz) ⟨Nat.le_of_ble_eq_true rfl, Nat.le_of_ble_eq_true rfl⟩ ⟨Nat.zero_le _, Nat.zero_le _⟩ hw 0 4 rfl rfl rfl rfl (Nat.le_of_ble_eq_true rfl) dX6_wrongBook_2 (fun H locs hw => ?_)
  have hw : zHw x A s.heap (zMW x a q g (zNM nn mv) (zflat S)) H locs := hw
  refine lv_istore_n (lv' := [(3, .int (-1000000006)), (0, .ref (a 0)), (1, .int (nI j)), (2, .int h)]) hx hb dX6_wrongBook_5 rfl hl (by decide) rfl (fun ls hl => ?_)
  refine lv_iload_n hx hb dX6_wrongBook_6 rfl (lv_at hl 0 rfl) ?_
  refine lv_if_eq (tgt := 14) hx hb dX6_wrongBook_7 (by decide) (fun c7 => absurd c7 (by decide)) (fun c7 => ?_)
  refine lv_iload_n hx hb dX6_wrongBook_10 rfl (lv_at hl 0 rfl) ?_
  refine lv_goto (tgt := 28) hx hb dX6_wrongBook_11 (by decide) ?_
  exact zFG.iret hx hb hr hlocks hQ hw rfl dX6_wrongBook_28 ⟨rfl, rfl⟩

set_option maxHeartbeats 4000000 in
set_option maxRecDepth 100000 in
theorem c_X6_wrongBook_1 (x : zX) (a : Nat → Nat) (q : Nat → Int32) (g : zT) (nn : zNN) (mv : Nat → Int64) (S : zT) (j : Nat) (h : Int32) (hj : j < 4) (hz : ¬ g 7 j = 0) (hI : zInv S) (hh : 0 ≤ h ∧ h < S 0 0) : zFF x mX6_wrongBook 3 [.ref (a 0), .int (nI j), .int h] (zMW x a q g (zNM nn mv) (zflat S)) (some (.int 0)) (zMW x a q g (zNM nn mv) (zflat S)) := by
  refine zFG.start RX6 cX6_wrongBook 4 (some .int) rfl rfl (by decide +kernel) (Nat.le_of_ble_eq_true rfl) ?_
  intro p e s m ar below meth c ls A Q hx hb hr hml hown hts hlocks hK hE hA hQ hl hw
  have hl : lv_has ls 4 [(0, .ref (a 0)), (1, .int (nI j)), (2, .int h)] := hl
  have hw : zHw x A s.heap (zMW x a q g (zNM nn mv) (zflat S)) s.heap [] := hw
  refine lv_aload_n hx hb dX6_wrongBook_0 rfl (lv_at hl 0 rfl) ?_
  refine lv_iload_n hx hb dX6_wrongBook_1 rfl (lv_at hl 1 rfl) ?_
  refine zcVwi (r := 0) hx hb hml hown hts hl.1 hK hE hA lkX6_298 (c_X6_wrongSheet_1 x a q g nn mv S j hj hz) ⟨Nat.le_of_ble_eq_true rfl, Nat.le_of_ble_eq_true rfl⟩ ⟨Nat.zero_le _, Nat.zero_le _⟩ hw 0 4 rfl rfl rfl rfl (Nat.le_of_ble_eq_true rfl) dX6_wrongBook_2 (fun H locs hw => ?_)
  have hw : zHw x A s.heap (zMW x a q g (zNM nn mv) (zflat S)) H locs := hw
  refine lv_istore_n (lv' := [(3, .int 0), (0, .ref (a 0)), (1, .int (nI j)), (2, .int h)]) hx hb dX6_wrongBook_5 rfl hl (by decide) rfl (fun ls hl => ?_)
  refine lv_iload_n hx hb dX6_wrongBook_6 rfl (lv_at hl 0 rfl) ?_
  refine lv_if_eq (tgt := 14) hx hb dX6_wrongBook_7 (by decide) (fun c7 => ?_) (fun c7 => absurd (by decide) c7)
  refine lv_aload_n hx hb dX6_wrongBook_14 rfl (lv_at hl 1 rfl) ?_
  refine lv_iload_n hx hb dX6_wrongBook_15 rfl (lv_at hl 3 rfl) ?_
  refine zcVwi (r := zb (0 ≤ h ∧ h < S 0 0)) hx hb hml hown hts hl.1 hK hE hA lkX6_98 (c_X6_isHole x a q g (zNM nn mv) S h hI) ⟨Nat.le_of_ble_eq_true rfl, Nat.le_of_ble_eq_true rfl⟩ ⟨Nat.zero_le _, Nat.zero_le _⟩ hw 0 4 rfl rfl rfl rfl (Nat.le_of_ble_eq_true rfl) dX6_wrongBook_16 (fun H locs hw => ?_)
  have hw : zHw x A s.heap (zMW x a q g (zNM nn mv) (zflat S)) H locs := hw
  refine lv_if_eq (tgt := 26) hx hb dX6_wrongBook_19 (by decide) (fun c19 => absurd c19 (zb_n0.mpr hh)) (fun c19 => ?_)
  refine lv_iconst (v := 0) hx hb dX6_wrongBook_22 (by decide) ?_
  refine lv_goto (tgt := 28) hx hb dX6_wrongBook_23 (by decide) ?_
  exact zFG.iret hx hb hr hlocks hQ hw rfl dX6_wrongBook_28 ⟨rfl, rfl⟩

set_option maxHeartbeats 4000000 in
set_option maxRecDepth 100000 in
theorem c_X6_wrongBook_1n (x : zX) (a : Nat → Nat) (q : Nat → Int32) (g : zT) (nn : zNN) (mv : Nat → Int64) (S : zT) (j : Nat) (h : Int32) (hj : j < 4) (hz : ¬ g 7 j = 0) (hI : zInv S) (hh : ¬ (0 ≤ h ∧ h < S 0 0)) : zFF x mX6_wrongBook 3 [.ref (a 0), .int (nI j), .int h] (zMW x a q g (zNM nn mv) (zflat S)) (some (.int (-1000000001))) (zMW x a q g (zNM nn mv) (zflat S)) := by
  refine zFG.start RX6 cX6_wrongBook 4 (some .int) rfl rfl (by decide +kernel) (Nat.le_of_ble_eq_true rfl) ?_
  intro p e s m ar below meth c ls A Q hx hb hr hml hown hts hlocks hK hE hA hQ hl hw
  have hl : lv_has ls 4 [(0, .ref (a 0)), (1, .int (nI j)), (2, .int h)] := hl
  have hw : zHw x A s.heap (zMW x a q g (zNM nn mv) (zflat S)) s.heap [] := hw
  refine lv_aload_n hx hb dX6_wrongBook_0 rfl (lv_at hl 0 rfl) ?_
  refine lv_iload_n hx hb dX6_wrongBook_1 rfl (lv_at hl 1 rfl) ?_
  refine zcVwi (r := 0) hx hb hml hown hts hl.1 hK hE hA lkX6_298 (c_X6_wrongSheet_1 x a q g nn mv S j hj hz) ⟨Nat.le_of_ble_eq_true rfl, Nat.le_of_ble_eq_true rfl⟩ ⟨Nat.zero_le _, Nat.zero_le _⟩ hw 0 4 rfl rfl rfl rfl (Nat.le_of_ble_eq_true rfl) dX6_wrongBook_2 (fun H locs hw => ?_)
  have hw : zHw x A s.heap (zMW x a q g (zNM nn mv) (zflat S)) H locs := hw
  refine lv_istore_n (lv' := [(3, .int 0), (0, .ref (a 0)), (1, .int (nI j)), (2, .int h)]) hx hb dX6_wrongBook_5 rfl hl (by decide) rfl (fun ls hl => ?_)
  refine lv_iload_n hx hb dX6_wrongBook_6 rfl (lv_at hl 0 rfl) ?_
  refine lv_if_eq (tgt := 14) hx hb dX6_wrongBook_7 (by decide) (fun c7 => ?_) (fun c7 => absurd (by decide) c7)
  refine lv_aload_n hx hb dX6_wrongBook_14 rfl (lv_at hl 1 rfl) ?_
  refine lv_iload_n hx hb dX6_wrongBook_15 rfl (lv_at hl 3 rfl) ?_
  refine zcVwi (r := zb (0 ≤ h ∧ h < S 0 0)) hx hb hml hown hts hl.1 hK hE hA lkX6_98 (c_X6_isHole x a q g (zNM nn mv) S h hI) ⟨Nat.le_of_ble_eq_true rfl, Nat.le_of_ble_eq_true rfl⟩ ⟨Nat.zero_le _, Nat.zero_le _⟩ hw 0 4 rfl rfl rfl rfl (Nat.le_of_ble_eq_true rfl) dX6_wrongBook_16 (fun H locs hw => ?_)
  have hw : zHw x A s.heap (zMW x a q g (zNM nn mv) (zflat S)) H locs := hw
  refine lv_if_eq (tgt := 26) hx hb dX6_wrongBook_19 (by decide) (fun c19 => ?_) (fun c19 => absurd (zb_0.mpr hh) c19)
  refine lv_ldc (v := (-1000000001)) hx hb hown (hts _ ckX6_45) dX6_wrongBook_26 ?_
  exact zFG.iret hx hb hr hlocks hQ hw rfl dX6_wrongBook_28 ⟨rfl, rfl⟩

set_option maxHeartbeats 4000000 in
set_option maxRecDepth 100000 in
theorem c_X6_book (x : zX) (a : Nat → Nat) (q : Nat → Int32) (g : zT) (nn : zNN) (mv : Nat → Int64) (S : zT) (y h : Int32) (hI : zInv S) (hS : zSI (g 7) (g 8)) : zFG x mX6_book 7 [.ref (a 0), .int y, .int h] (zMW x a q g (zNM nn mv) (zflat S)) (fun v' u' => v' = some (.int (zm_book (g 7) (g 8) nn S (g 5) y h).1) ∧ zPS x a q g S ((zm_book (g 7) (g 8) nn S (g 5) y h).2.1) (g 7) (g 8) ((zm_book (g 7) (g 8) nn S (g 5) y h).2.2) u') := by
  refine zFG.start RX6 cX6_book 5 (some .int) rfl rfl (by decide +kernel) (Nat.le_of_ble_eq_true rfl) ?_
  intro p e s m ar below meth c ls A Q hx hb hr hml hown hts hlocks hK hE hA hQ hl hw
  have hl : lv_has ls 5 [(0, .ref (a 0)), (1, .int y), (2, .int h)] := hl
  have hw : zHw x A s.heap (zMW x a q g (zNM nn mv) (zflat S)) s.heap [] := hw
  rcases zcaseB y h (g 7) S with hno | ⟨j, hj, rfl, hz⟩ | ⟨j, hj, rfl, hz, hh⟩ | ⟨j, hj, rfl, hz, hh⟩
  · refine lv_aload_n hx hb dX6_book_0 rfl (lv_at hl 0 rfl) ?_
    refine lv_iload_n hx hb dX6_book_1 rfl (lv_at hl 1 rfl) ?_
    refine lv_iload_n hx hb dX6_book_2 rfl (lv_at hl 2 rfl) ?_
    refine zcVwi (r := (-1000000001)) hx hb hml hown hts hl.1 hK hE hA lkX6_305 (c_X6_wrongBook_no x a q g nn mv S y h hno) ⟨Nat.le_of_ble_eq_true rfl, Nat.le_of_ble_eq_true rfl⟩ ⟨Nat.zero_le _, Nat.zero_le _⟩ hw 0 4 rfl rfl rfl rfl (Nat.le_of_ble_eq_true rfl) dX6_book_3 (fun H locs hw => ?_)
    have hw : zHw x A s.heap (zMW x a q g (zNM nn mv) (zflat S)) H locs := hw
    refine lv_istore_n (lv' := [(3, .int (-1000000001)), (0, .ref (a 0)), (1, .int y), (2, .int h)]) hx hb dX6_book_6 rfl hl (by decide) rfl (fun ls hl => ?_)
    refine lv_iload_n hx hb dX6_book_7 rfl (lv_at hl 0 rfl) ?_
    refine lv_if_eq (tgt := 17) hx hb dX6_book_8 (by decide) (fun c8 => absurd c8 (by decide)) (fun c8 => ?_)
    refine lv_aload_n hx hb dX6_book_11 rfl (lv_at hl 1 rfl) ?_
    refine lv_iload_n hx hb dX6_book_12 rfl (lv_at hl 0 rfl) ?_
    refine zcVwi (r := (-1000000001)) hx hb hml hown hts hl.1 hK hE hA lkX6_64 (c_X6_finds x a q g (zNM nn mv) (zflat S) (-1000000001) 0 (by decide) (by decide)) ⟨Nat.le_of_ble_eq_true rfl, Nat.le_of_ble_eq_true rfl⟩ ⟨Nat.zero_le _, Nat.zero_le _⟩ hw 0 4 rfl rfl rfl rfl (Nat.le_of_ble_eq_true rfl) dX6_book_13 (fun H locs hw => ?_)
    have hw : zHw x A s.heap (zMW x a q (zU g 5 0 (g 5 0 + 1)) (zNM nn mv) (zflat S)) H locs := hw
    exact zFG.iret hx hb hr hlocks hQ hw rfl dX6_book_16 (by rw [show zm_book (g 7) (g 8) nn S (g 5) y h = ((-1000000001), nn, zFd (g 5) 0) from (by unfold zm_book; rw [if_neg hno])]; exact ⟨rfl, zPS.mk (zK1 g 0)⟩)
  · refine lv_aload_n hx hb dX6_book_0 rfl (lv_at hl 0 rfl) ?_
    refine lv_iload_n hx hb dX6_book_1 rfl (lv_at hl 1 rfl) ?_
    refine lv_iload_n hx hb dX6_book_2 rfl (lv_at hl 2 rfl) ?_
    refine zcVwi (r := (-1000000006)) hx hb hml hown hts hl.1 hK hE hA lkX6_305 (c_X6_wrongBook_0 x a q g nn mv S j h hj hz) ⟨Nat.le_of_ble_eq_true rfl, Nat.le_of_ble_eq_true rfl⟩ ⟨Nat.zero_le _, Nat.zero_le _⟩ hw 0 4 rfl rfl rfl rfl (Nat.le_of_ble_eq_true rfl) dX6_book_3 (fun H locs hw => ?_)
    have hw : zHw x A s.heap (zMW x a q g (zNM nn mv) (zflat S)) H locs := hw
    refine lv_istore_n (lv' := [(3, .int (-1000000006)), (0, .ref (a 0)), (1, .int (nI j)), (2, .int h)]) hx hb dX6_book_6 rfl hl (by decide) rfl (fun ls hl => ?_)
    refine lv_iload_n hx hb dX6_book_7 rfl (lv_at hl 0 rfl) ?_
    refine lv_if_eq (tgt := 17) hx hb dX6_book_8 (by decide) (fun c8 => absurd c8 (by decide)) (fun c8 => ?_)
    refine lv_aload_n hx hb dX6_book_11 rfl (lv_at hl 1 rfl) ?_
    refine lv_iload_n hx hb dX6_book_12 rfl (lv_at hl 0 rfl) ?_
    refine zcVwi (r := (-1000000006)) hx hb hml hown hts hl.1 hK hE hA lkX6_64 (c_X6_finds x a q g (zNM nn mv) (zflat S) (-1000000006) 5 (by decide) (by decide)) ⟨Nat.le_of_ble_eq_true rfl, Nat.le_of_ble_eq_true rfl⟩ ⟨Nat.zero_le _, Nat.zero_le _⟩ hw 0 4 rfl rfl rfl rfl (Nat.le_of_ble_eq_true rfl) dX6_book_13 (fun H locs hw => ?_)
    have hw : zHw x A s.heap (zMW x a q (zU g 5 5 (g 5 5 + 1)) (zNM nn mv) (zflat S)) H locs := hw
    exact zFG.iret hx hb hr hlocks hQ hw rfl dX6_book_16 (by rw [show zm_book (g 7) (g 8) nn S (g 5) (nI j) h = ((-1000000006), nn, zFd (g 5) 5) from (by unfold zm_book; rw [if_pos (z4_of hj), zc_nI (show j < 2147483648 by omega), if_pos hz])]; exact ⟨rfl, zPS.mk (zK1 g 5)⟩)
  · refine lv_aload_n hx hb dX6_book_0 rfl (lv_at hl 0 rfl) ?_
    refine lv_iload_n hx hb dX6_book_1 rfl (lv_at hl 1 rfl) ?_
    refine lv_iload_n hx hb dX6_book_2 rfl (lv_at hl 2 rfl) ?_
    refine zcVwi (r := (-1000000001)) hx hb hml hown hts hl.1 hK hE hA lkX6_305 (c_X6_wrongBook_1n x a q g nn mv S j h hj hz hI hh) ⟨Nat.le_of_ble_eq_true rfl, Nat.le_of_ble_eq_true rfl⟩ ⟨Nat.zero_le _, Nat.zero_le _⟩ hw 0 4 rfl rfl rfl rfl (Nat.le_of_ble_eq_true rfl) dX6_book_3 (fun H locs hw => ?_)
    have hw : zHw x A s.heap (zMW x a q g (zNM nn mv) (zflat S)) H locs := hw
    refine lv_istore_n (lv' := [(3, .int (-1000000001)), (0, .ref (a 0)), (1, .int (nI j)), (2, .int h)]) hx hb dX6_book_6 rfl hl (by decide) rfl (fun ls hl => ?_)
    refine lv_iload_n hx hb dX6_book_7 rfl (lv_at hl 0 rfl) ?_
    refine lv_if_eq (tgt := 17) hx hb dX6_book_8 (by decide) (fun c8 => absurd c8 (by decide)) (fun c8 => ?_)
    refine lv_aload_n hx hb dX6_book_11 rfl (lv_at hl 1 rfl) ?_
    refine lv_iload_n hx hb dX6_book_12 rfl (lv_at hl 0 rfl) ?_
    refine zcVwi (r := (-1000000001)) hx hb hml hown hts hl.1 hK hE hA lkX6_64 (c_X6_finds x a q g (zNM nn mv) (zflat S) (-1000000001) 0 (by decide) (by decide)) ⟨Nat.le_of_ble_eq_true rfl, Nat.le_of_ble_eq_true rfl⟩ ⟨Nat.zero_le _, Nat.zero_le _⟩ hw 0 4 rfl rfl rfl rfl (Nat.le_of_ble_eq_true rfl) dX6_book_13 (fun H locs hw => ?_)
    have hw : zHw x A s.heap (zMW x a q (zU g 5 0 (g 5 0 + 1)) (zNM nn mv) (zflat S)) H locs := hw
    exact zFG.iret hx hb hr hlocks hQ hw rfl dX6_book_16 (by rw [show zm_book (g 7) (g 8) nn S (g 5) (nI j) h = ((-1000000001), nn, zFd (g 5) 0) from (by unfold zm_book; rw [if_pos (z4_of hj), zc_nI (show j < 2147483648 by omega), if_neg hz, if_neg hh])]; exact ⟨rfl, zPS.mk (zK1 g 0)⟩)
  · refine lv_aload_n hx hb dX6_book_0 rfl (lv_at hl 0 rfl) ?_
    refine lv_iload_n hx hb dX6_book_1 rfl (lv_at hl 1 rfl) ?_
    refine lv_iload_n hx hb dX6_book_2 rfl (lv_at hl 2 rfl) ?_
    refine zcVwi (r := 0) hx hb hml hown hts hl.1 hK hE hA lkX6_305 (c_X6_wrongBook_1 x a q g nn mv S j h hj hz hI hh) ⟨Nat.le_of_ble_eq_true rfl, Nat.le_of_ble_eq_true rfl⟩ ⟨Nat.zero_le _, Nat.zero_le _⟩ hw 0 4 rfl rfl rfl rfl (Nat.le_of_ble_eq_true rfl) dX6_book_3 (fun H locs hw => ?_)
    have hw : zHw x A s.heap (zMW x a q g (zNM nn mv) (zflat S)) H locs := hw
    refine lv_istore_n (lv' := [(3, .int 0), (0, .ref (a 0)), (1, .int (nI j)), (2, .int h)]) hx hb dX6_book_6 rfl hl (by decide) rfl (fun ls hl => ?_)
    refine lv_iload_n hx hb dX6_book_7 rfl (lv_at hl 0 rfl) ?_
    refine lv_if_eq (tgt := 17) hx hb dX6_book_8 (by decide) (fun c8 => ?_) (fun c8 => absurd (by decide) c8)
    obtain ⟨-, n4, hn4, hs4⟩ := hS j hj
    obtain ⟨i0, hi08, hi0N, rfl⟩ := zH_nat hI hh
    refine lv_aload_n hx hb dX6_book_17 rfl (lv_at hl 1 rfl) ?_
    refine zcVwv hx hb hml hown hts hl.1 hK hE hA lkX6_165 (c_X6_laysAside x a q g (zNM nn mv) (zflat S)) ⟨Nat.le_of_ble_eq_true rfl, Nat.le_of_ble_eq_true rfl⟩ ⟨Nat.zero_le _, Nat.zero_le _⟩ hw 0 4 rfl rfl rfl rfl (Nat.le_of_ble_eq_true rfl) dX6_book_18 (fun H locs hw => ?_)
    have hw : zHw x A s.heap (zMW x a q (zV g 4 (zflat S)) (zNM nn mv) (zflat S)) H locs := hw
    refine lv_iconst (v := 0) hx hb dX6_book_21 (by decide) ?_
    refine lv_istore (lv' := [(4, .int 0), (3, .int 0), (0, .ref (a 0)), (1, .int (nI j)), (2, .int (nI i0))]) hx hb dX6_book_22 hl (by decide) rfl (fun ls hl => ?_)
    have loop24 : ∀ (dd : Nat) (k : Nat), n4 - k < dd → (hk : k ≤ n4) → ∀ (H : Heap) (locs : List Loc) (ls : Array Slot), zHw x A s.heap (zMW x a q (zV g 4 (zflat S)) (zNM ((zBk (g 7 j) i0 j k nn S).1) mv) (zflat ((zBk (g 7 j) i0 j k nn S).2))) H locs → lv_has ls 5 [(0, .ref (a 0)), (1, .int (nI j)), (2, .int (nI i0)), (4, .int (nI k))] → W p x.1 e (zRM 7) s m ar below meth c H locs 0 0 Q (F0 m 24 ls []) := by
      intro dd
      induction dd with
      | zero => intro k hm; exact absurd hm (Nat.not_lt_zero _)
      | succ dd ih24 =>
        intro k hm hk H locs ls hw hl
        refine lv_iload hx hb dX6_book_24 (lv_at hl 3 rfl) ?_
        refine lv_aload_n hx hb dX6_book_26 rfl (lv_at hl 0 rfl) ?_
        refine gfX6_31 hx hb hown hts hK hw 0 rfl rfl dX6_book_27 ?_
        refine lv_iload_n hx hb dX6_book_30 rfl (lv_at hl 1 rfl) ?_
        refine zial hx hb hK hw 8 0 j rfl rfl rfl (by omega) (by decide) dX6_book_31 ?_
        refine W.eq (g2 := F0 m 32 ls [.int (g 8 j), .int (nI k)]) (by rfl) ?_
        refine lv_icmp_ge (tgt := 73) hx hb dX6_book_32 (by decide) (fun c32 => ?_) (fun c32 => ?_)
        · have hke : k = n4 := zke hs4 (by omega) hk c32
          refine lv_aload_n hx hb dX6_book_73 rfl (lv_at hl 0 rfl) ?_
          refine lv_aload_n hx hb dX6_book_74 rfl (lv_at hl 0 rfl) ?_
          refine gfX6_31 hx hb hown hts hK hw 0 rfl rfl dX6_book_75 ?_
          refine lv_iload_n hx hb dX6_book_78 rfl (lv_at hl 1 rfl) ?_
          refine zial hx hb hK hw 8 0 j rfl rfl rfl (by omega) (by decide) dX6_book_79 ?_
          refine W.eq (g2 := F0 m 80 ls [.int (g 8 j), .ref (a 0)]) (by rfl) ?_
          refine zcVwi (r := g 8 j) hx hb hml hown hts hl.1 hK hE hA lkX6_168 (c_X6_takesBack x a q (zV g 4 (zflat S)) (zNM ((zBk (g 7 j) i0 j k nn S).1) mv) (zflat ((zBk (g 7 j) i0 j k nn S).2)) (g 8 j)) ⟨Nat.le_of_ble_eq_true rfl, Nat.le_of_ble_eq_true rfl⟩ ⟨Nat.zero_le _, Nat.zero_le _⟩ hw 0 4 rfl rfl rfl rfl (Nat.le_of_ble_eq_true rfl) dX6_book_80 (fun H locs hw => ?_)
          have hw : zHw x A s.heap (zMW x a q (zV g 4 (zflat S)) (zNM ((zBk (g 7 j) i0 j k nn S).1) mv) (zflat S)) H locs := hw
          exact zFG.iret hx hb hr hlocks hQ hw rfl dX6_book_83 (by rw [show zm_book (g 7) (g 8) nn S (g 5) (nI j) (nI i0) = (nI n4, ((zBk (g 7 j) i0 j k nn S).1), g 5) from (by unfold zm_book; rw [if_pos (z4_of hj), zc_nI (show j < 2147483648 by omega), if_neg hz, if_pos hh, zc_nI (show i0 < 2147483648 by omega), hs4, zc_nI (show n4 < 2147483648 by omega), hke])]; exact ⟨zsi hs4, zPS.mk (zK2 g (zflat S))⟩)
        · have hk4 : k < n4 := zkn hs4 (by omega) hk c32
          have hJ := zBk_inv (g 7 j) i0 j k nn hI
          refine lv_aload_n hx hb dX6_book_35 rfl (lv_at hl 0 rfl) ?_
          refine gfX6_34 hx hb hown hts hK hw 0 rfl rfl dX6_book_36 ?_
          refine lv_bipush (v := 40) hx hb dX6_book_39 (by decide) ?_
          refine lv_iload_n hx hb dX6_book_41 rfl (lv_at hl 1 rfl) ?_
          refine lv_imul hx hb dX6_book_42 ?_
          refine lv_iload hx hb dX6_book_43 (lv_at hl 3 rfl) ?_
          refine lv_iadd hx hb dX6_book_45 ?_
          refine lv_aload_n hx hb dX6_book_46 rfl (lv_at hl 0 rfl) ?_
          refine gfX6_28 hx hb hown hts hK hw 0 rfl rfl dX6_book_47 ?_
          refine lv_iload_n hx hb dX6_book_50 rfl (lv_at hl 1 rfl) ?_
          refine zial hx hb hK hw 7 0 j rfl rfl rfl (by omega) (by decide) dX6_book_51 ?_
          refine W.eq (g2 := F0 m 52 ls [.int (g 7 j), .int ((40 * (nI j)) + (nI k)), .ref (a 9)]) (by rfl) ?_
          refine lv_aload_n hx hb dX6_book_52 rfl (lv_at hl 0 rfl) ?_
          refine lv_iload_n hx hb dX6_book_53 rfl (lv_at hl 2 rfl) ?_
          refine lv_iconst (v := 2) hx hb dX6_book_54 (by decide) ?_
          refine zcVwi (r := ((zBk (g 7 j) i0 j k nn S).2) 5 i0) hx hb hml hown hts hl.1 hK hE hA lkX6_74 (c_X6_its x a q (zV g 4 (zflat S)) (zNM ((zBk (g 7 j) i0 j k nn S).1) mv) ((zBk (g 7 j) i0 j k nn S).2) i0 2 (by omega) (by omega)) ⟨Nat.le_of_ble_eq_true rfl, Nat.le_of_ble_eq_true rfl⟩ ⟨Nat.zero_le _, Nat.zero_le _⟩ hw 0 4 rfl rfl rfl rfl (Nat.le_of_ble_eq_true rfl) dX6_book_55 (fun H locs hw => ?_)
          have hw : zHw x A s.heap (zMW x a q (zV g 4 (zflat S)) (zNM ((zBk (g 7 j) i0 j k nn S).1) mv) (zflat ((zBk (g 7 j) i0 j k nn S).2))) H locs := hw
          refine lv_i2l hx hb dX6_book_58 rfl ?_
          refine zcSwl (r := zna (g 7 j) ((((zBk (g 7 j) i0 j k nn S).2) 5 i0).toInt64)) hx hb hml hown hts hl.1 hK hE hA lkX6_301 (c_X6_narrowed x (zMW x a q (zV g 4 (zflat S)) (zNM ((zBk (g 7 j) i0 j k nn S).1) mv) (zflat ((zBk (g 7 j) i0 j k nn S).2))) (g 7 j) ((((zBk (g 7 j) i0 j k nn S).2) 5 i0).toInt64)) ⟨Nat.le_of_ble_eq_true rfl, Nat.le_of_ble_eq_true rfl⟩ ⟨Nat.zero_le _, Nat.zero_le _⟩ hw rfl rfl (Nat.le_of_ble_eq_true rfl) dX6_book_59 (fun H locs hw => ?_)
          have hw : zHw x A s.heap (zMW x a q (zV g 4 (zflat S)) (zNM ((zBk (g 7 j) i0 j k nn S).1) mv) (zflat ((zBk (g 7 j) i0 j k nn S).2))) H locs := hw
          refine zlas2 (f' := zfl (zUL ((zBk (g 7 j) i0 j k nn S).1) j k (zna (g 7 j) ((((zBk (g 7 j) i0 j k nn S).2) 5 i0).toInt64)))) hx hb hK hw 9 1 (40 * j + k) rfl rfl (zix j k) (by omega) (by decide) dX6_book_62 (zfl_u ((zBk (g 7 j) i0 j k nn S).1) _ (by omega)) (fun H locs hw => ?_)
          have hw : zHw x A s.heap (zMW x a q (zV g 4 (zflat S)) (zNM (zUL ((zBk (g 7 j) i0 j k nn S).1) j k (zna (g 7 j) ((((zBk (g 7 j) i0 j k nn S).2) 5 i0).toInt64))) mv) (zflat ((zBk (g 7 j) i0 j k nn S).2))) H locs := hw
          refine lv_aload_n hx hb dX6_book_63 rfl (lv_at hl 0 rfl) ?_
          refine zcVwv hx hb hml hown hts hl.1 hK hE hA lkX6_147 (c_X6_week x a q (zV g 4 (zflat S)) (zNM (zUL ((zBk (g 7 j) i0 j k nn S).1) j k (zna (g 7 j) ((((zBk (g 7 j) i0 j k nn S).2) 5 i0).toInt64))) mv) (zBk (g 7 j) i0 j k nn S).2 hJ) ⟨Nat.le_of_ble_eq_true rfl, Nat.le_of_ble_eq_true rfl⟩ ⟨Nat.zero_le _, Nat.zero_le _⟩ hw 0 4 rfl rfl rfl rfl (Nat.le_of_ble_eq_true rfl) dX6_book_64 (fun H locs hw => ?_)
          have hw : zHw x A s.heap (zMW x a q (zV g 4 (zflat S)) (zNM ((zBk (g 7 j) i0 j (k + 1) nn S).1) mv) (zflat ((zBk (g 7 j) i0 j (k + 1) nn S).2))) H locs := hw
          refine lv_iinc (v := nI (k + 1)) (lv' := [(4, .int (nI (k + 1))), (0, .ref (a 0)), (1, .int (nI j)), (2, .int (nI i0))]) hx hb dX6_book_67 hl (k := 3) rfl (nI_1 k) (by decide) rfl (fun ls hl => ?_)
          refine lv_goto (tgt := 24) hx hb dX6_book_70 (by decide) ?_
          exact ih24 (k + 1) (by omega) (by omega) _ _ _ hw (lv_sub hl [1, 2, 3, 0] rfl)
    exact loop24 (_ + 1) 0 (Nat.lt_succ_self _) (Nat.zero_le _) _ _ _ hw (lv_sub hl [2, 3, 4, 0] rfl)

set_option maxHeartbeats 4000000 in
set_option maxRecDepth 100000 in
theorem c_X6_isBook (x : zX) (a : Nat → Nat) (q : Nat → Int32) (g : zT) (nn : zNN) (mv : Nat → Int64) (S : zT) (j h n4 : Nat) (hj : j < 4) (hI : zInv S) (hh : h < 8) (hs4 : g 8 j = nI n4) (hn4 : n4 ≤ 40) : zFG x mX6_isBook 7 [.ref (a 0), .int (nI j), .int (nI h)] (zMW x a q g (zNM nn mv) (zflat S)) (fun v' u' => v' = some (.int (zb (zIb (nn j) h n4 0 S = true))) ∧ ∃ T2 : zT, u' = zMW x a q g (zNM nn mv) (zflat T2)) := by
  refine zFG.start RX6 cX6_isBook 4 (some .boolean) rfl rfl (by decide +kernel) (Nat.le_of_ble_eq_true rfl) ?_
  intro p e s m ar below meth c ls A Q hx hb hr hml hown hts hlocks hK hE hA hQ hl hw
  have hl : lv_has ls 4 [(0, .ref (a 0)), (1, .int (nI j)), (2, .int (nI h))] := hl
  have hw : zHw x A s.heap (zMW x a q g (zNM nn mv) (zflat S)) s.heap [] := hw
  refine lv_iconst (v := 0) hx hb dX6_isBook_0 (by decide) ?_
  refine lv_istore_n (lv' := [(3, .int 0), (0, .ref (a 0)), (1, .int (nI j)), (2, .int (nI h))]) hx hb dX6_isBook_1 rfl hl (by decide) rfl (fun ls hl => ?_)
  have loop2 : ∀ (dd : Nat) (k : Nat) (U : zT), n4 - k < dd → (hk : k ≤ n4) → (hJ : zInv U) → (e1 : zIb (nn j) h (n4 - k) k U = zIb (nn j) h n4 0 S) → ∀ (H : Heap) (locs : List Loc) (ls : Array Slot), zHw x A s.heap (zMW x a q g (zNM nn mv) (zflat U)) H locs → lv_has ls 4 [(0, .ref (a 0)), (1, .int (nI j)), (2, .int (nI h)), (3, .int (nI k))] → W p x.1 e (zRM 7) s m ar below meth c H locs 0 0 Q (F0 m 2 ls []) := by
    intro dd
    induction dd with
    | zero => intro k U hm; exact absurd hm (Nat.not_lt_zero _)
    | succ dd ih2 =>
      intro k U hm hk hJ e1 H locs ls hw hl
      refine lv_iload_n hx hb dX6_isBook_2 rfl (lv_at hl 3 rfl) ?_
      refine lv_aload_n hx hb dX6_isBook_3 rfl (lv_at hl 0 rfl) ?_
      refine gfX6_31 hx hb hown hts hK hw 0 rfl rfl dX6_isBook_4 ?_
      refine lv_iload_n hx hb dX6_isBook_7 rfl (lv_at hl 1 rfl) ?_
      refine zial hx hb hK hw 8 0 j rfl rfl rfl (by omega) (by decide) dX6_isBook_8 ?_
      refine lv_icmp_ge (tgt := 46) hx hb dX6_isBook_9 (by decide) (fun c9 => ?_) (fun c9 => ?_)
      · refine lv_iconst (v := 1) hx hb dX6_isBook_46 (by decide) ?_
        exact zFG.zret hx hb hr hlocks hQ hw rfl dX6_isBook_47 (by decide) ⟨zsi (by have hke := zke hs4 (by omega) hk c9; rw [← e1, hke, Nat.sub_self]; exact (zb_t rfl).symm), _, rfl⟩
      · have hk4 : k < n4 := zkn hs4 (by omega) hk c9
        have hd : n4 - k = (n4 - (k + 1)) + 1 := by omega
        refine lv_aload_n hx hb dX6_isBook_12 rfl (lv_at hl 0 rfl) ?_
        refine gfX6_34 hx hb hown hts hK hw 0 rfl rfl dX6_isBook_13 ?_
        refine lv_bipush (v := 40) hx hb dX6_isBook_16 (by decide) ?_
        refine lv_iload_n hx hb dX6_isBook_18 rfl (lv_at hl 1 rfl) ?_
        refine lv_imul hx hb dX6_isBook_19 ?_
        refine lv_iload_n hx hb dX6_isBook_20 rfl (lv_at hl 3 rfl) ?_
        refine lv_iadd hx hb dX6_isBook_21 ?_
        refine zlal2 (v := nn j k) hx hb hK hw 9 1 (40 * j + k) rfl rfl (zix j k) (by omega) (by decide) dX6_isBook_22 (zfl_at nn (by omega)) ?_
        refine lv_aload_n hx hb dX6_isBook_23 rfl (lv_at hl 0 rfl) ?_
        refine lv_iload_n hx hb dX6_isBook_24 rfl (lv_at hl 2 rfl) ?_
        refine lv_iconst (v := 2) hx hb dX6_isBook_25 (by decide) ?_
        refine zcVwi (r := U 5 h) hx hb hml hown hts hl.1 hK hE hA lkX6_74 (c_X6_its x a q g (zNM nn mv) U h 2 (by omega) (by omega)) ⟨Nat.le_of_ble_eq_true rfl, Nat.le_of_ble_eq_true rfl⟩ ⟨Nat.zero_le _, Nat.zero_le _⟩ hw 0 4 rfl rfl rfl rfl (Nat.le_of_ble_eq_true rfl) dX6_isBook_26 (fun H locs hw => ?_)
        have hw : zHw x A s.heap (zMW x a q g (zNM nn mv) (zflat U)) H locs := hw
        refine lv_i2l hx hb dX6_isBook_29 rfl ?_
        refine W.lcmp hx hb dX6_isBook_30 ?_
        refine lv_if_eq (tgt := 36) hx hb dX6_isBook_31 (by decide) (fun c31 => ?_) (fun c31 => ?_)
        · have c31 := (lg_cmp_eq _ _).mp c31
          refine lv_aload_n hx hb dX6_isBook_36 rfl (lv_at hl 0 rfl) ?_
          refine zcVwv hx hb hml hown hts hl.1 hK hE hA lkX6_147 (c_X6_week x a q g (zNM nn mv) U hJ) ⟨Nat.le_of_ble_eq_true rfl, Nat.le_of_ble_eq_true rfl⟩ ⟨Nat.zero_le _, Nat.zero_le _⟩ hw 0 4 rfl rfl rfl rfl (Nat.le_of_ble_eq_true rfl) dX6_isBook_37 (fun H locs hw => ?_)
          have hw : zHw x A s.heap (zMW x a q g (zNM nn mv) (zflat (zWk U))) H locs := hw
          refine lv_iinc (v := nI (k + 1)) (lv' := [(3, .int (nI (k + 1))), (0, .ref (a 0)), (1, .int (nI j)), (2, .int (nI h))]) hx hb dX6_isBook_40 hl (k := 3) rfl (nI_1 k) (by decide) rfl (fun ls hl => ?_)
          refine lv_goto (tgt := 2) hx hb dX6_isBook_43 (by decide) ?_
          exact ih2 (k + 1) (zWk U) (by omega) (by omega) ((zWk_ok hJ).1) (by rw [← e1, hd, zIb_t c31]) _ _ _ hw (lv_sub hl [1, 2, 3, 0] rfl)
        · have c31 := fun h => c31 ((lg_cmp_eq _ _).mpr h)
          refine lv_iconst (v := 0) hx hb dX6_isBook_34 (by decide) ?_
          exact zFG.zret hx hb hr hlocks hQ hw rfl dX6_isBook_35 (by decide) ⟨zsi (by rw [← e1, hd, zIb_f c31]; exact (zb_f (by decide)).symm), _, rfl⟩
  exact loop2 (_ + 1) 0 S (Nat.lt_succ_self _) (Nat.zero_le _) hI rfl _ _ _ hw (lv_sub hl [1, 2, 3, 0] rfl)

set_option maxHeartbeats 4000000 in
set_option maxRecDepth 100000 in
theorem c_X6_read (x : zX) (a : Nat → Nat) (q : Nat → Int32) (g : zT) (nn : zNN) (mv : Nat → Int64) (S : zT) (y h : Int32) (hI : zInv S) (hS : zSI (g 7) (g 8)) : zFG x mX6_read 8 [.ref (a 0), .int y, .int h] (zMW x a q g (zNM nn mv) (zflat S)) (fun v' u' => v' = some (.int (zm_read (g 7) (g 8) nn S (g 5) y h).1) ∧ zPS x a q g S nn (g 7) (g 8) ((zm_read (g 7) (g 8) nn S (g 5) y h).2) u') := by
  refine zFG.start RX6 cX6_read 6 (some .int) rfl rfl (by decide +kernel) (Nat.le_of_ble_eq_true rfl) ?_
  intro p e s m ar below meth c ls A Q hx hb hr hml hown hts hlocks hK hE hA hQ hl hw
  have hl : lv_has ls 6 [(0, .ref (a 0)), (1, .int y), (2, .int h)] := hl
  have hw : zHw x A s.heap (zMW x a q g (zNM nn mv) (zflat S)) s.heap [] := hw
  rcases zcaseB y h (g 7) S with hno | ⟨j, hj, rfl, hz⟩ | ⟨j, hj, rfl, hz, hh⟩ | ⟨j, hj, rfl, hz, hh⟩
  · refine lv_aload_n hx hb dX6_read_0 rfl (lv_at hl 0 rfl) ?_
    refine lv_iload_n hx hb dX6_read_1 rfl (lv_at hl 1 rfl) ?_
    refine lv_iload_n hx hb dX6_read_2 rfl (lv_at hl 2 rfl) ?_
    refine zcVwi (r := (-1000000001)) hx hb hml hown hts hl.1 hK hE hA lkX6_305 (c_X6_wrongBook_no x a q g nn mv S y h hno) ⟨Nat.le_of_ble_eq_true rfl, Nat.le_of_ble_eq_true rfl⟩ ⟨Nat.zero_le _, Nat.zero_le _⟩ hw 0 4 rfl rfl rfl rfl (Nat.le_of_ble_eq_true rfl) dX6_read_3 (fun H locs hw => ?_)
    have hw : zHw x A s.heap (zMW x a q g (zNM nn mv) (zflat S)) H locs := hw
    refine lv_istore_n (lv' := [(3, .int (-1000000001)), (0, .ref (a 0)), (1, .int y), (2, .int h)]) hx hb dX6_read_6 rfl hl (by decide) rfl (fun ls hl => ?_)
    refine lv_iload_n hx hb dX6_read_7 rfl (lv_at hl 0 rfl) ?_
    refine lv_if_eq (tgt := 17) hx hb dX6_read_8 (by decide) (fun c8 => absurd c8 (by decide)) (fun c8 => ?_)
    refine lv_aload_n hx hb dX6_read_11 rfl (lv_at hl 1 rfl) ?_
    refine lv_iload_n hx hb dX6_read_12 rfl (lv_at hl 0 rfl) ?_
    refine zcVwi (r := (-1000000001)) hx hb hml hown hts hl.1 hK hE hA lkX6_64 (c_X6_finds x a q g (zNM nn mv) (zflat S) (-1000000001) 0 (by decide) (by decide)) ⟨Nat.le_of_ble_eq_true rfl, Nat.le_of_ble_eq_true rfl⟩ ⟨Nat.zero_le _, Nat.zero_le _⟩ hw 0 4 rfl rfl rfl rfl (Nat.le_of_ble_eq_true rfl) dX6_read_13 (fun H locs hw => ?_)
    have hw : zHw x A s.heap (zMW x a q (zU g 5 0 (g 5 0 + 1)) (zNM nn mv) (zflat S)) H locs := hw
    exact zFG.iret hx hb hr hlocks hQ hw rfl dX6_read_16 (by rw [show zm_read (g 7) (g 8) nn S (g 5) y h = ((-1000000001), zFd (g 5) 0) from (by unfold zm_read; rw [if_neg hno])]; exact ⟨rfl, zPS.mk (zK1 g 0)⟩)
  · refine lv_aload_n hx hb dX6_read_0 rfl (lv_at hl 0 rfl) ?_
    refine lv_iload_n hx hb dX6_read_1 rfl (lv_at hl 1 rfl) ?_
    refine lv_iload_n hx hb dX6_read_2 rfl (lv_at hl 2 rfl) ?_
    refine zcVwi (r := (-1000000006)) hx hb hml hown hts hl.1 hK hE hA lkX6_305 (c_X6_wrongBook_0 x a q g nn mv S j h hj hz) ⟨Nat.le_of_ble_eq_true rfl, Nat.le_of_ble_eq_true rfl⟩ ⟨Nat.zero_le _, Nat.zero_le _⟩ hw 0 4 rfl rfl rfl rfl (Nat.le_of_ble_eq_true rfl) dX6_read_3 (fun H locs hw => ?_)
    have hw : zHw x A s.heap (zMW x a q g (zNM nn mv) (zflat S)) H locs := hw
    refine lv_istore_n (lv' := [(3, .int (-1000000006)), (0, .ref (a 0)), (1, .int (nI j)), (2, .int h)]) hx hb dX6_read_6 rfl hl (by decide) rfl (fun ls hl => ?_)
    refine lv_iload_n hx hb dX6_read_7 rfl (lv_at hl 0 rfl) ?_
    refine lv_if_eq (tgt := 17) hx hb dX6_read_8 (by decide) (fun c8 => absurd c8 (by decide)) (fun c8 => ?_)
    refine lv_aload_n hx hb dX6_read_11 rfl (lv_at hl 1 rfl) ?_
    refine lv_iload_n hx hb dX6_read_12 rfl (lv_at hl 0 rfl) ?_
    refine zcVwi (r := (-1000000006)) hx hb hml hown hts hl.1 hK hE hA lkX6_64 (c_X6_finds x a q g (zNM nn mv) (zflat S) (-1000000006) 5 (by decide) (by decide)) ⟨Nat.le_of_ble_eq_true rfl, Nat.le_of_ble_eq_true rfl⟩ ⟨Nat.zero_le _, Nat.zero_le _⟩ hw 0 4 rfl rfl rfl rfl (Nat.le_of_ble_eq_true rfl) dX6_read_13 (fun H locs hw => ?_)
    have hw : zHw x A s.heap (zMW x a q (zU g 5 5 (g 5 5 + 1)) (zNM nn mv) (zflat S)) H locs := hw
    exact zFG.iret hx hb hr hlocks hQ hw rfl dX6_read_16 (by rw [show zm_read (g 7) (g 8) nn S (g 5) (nI j) h = ((-1000000006), zFd (g 5) 5) from (by unfold zm_read; rw [if_pos (z4_of hj), zc_nI (show j < 2147483648 by omega), if_pos hz])]; exact ⟨rfl, zPS.mk (zK1 g 5)⟩)
  · refine lv_aload_n hx hb dX6_read_0 rfl (lv_at hl 0 rfl) ?_
    refine lv_iload_n hx hb dX6_read_1 rfl (lv_at hl 1 rfl) ?_
    refine lv_iload_n hx hb dX6_read_2 rfl (lv_at hl 2 rfl) ?_
    refine zcVwi (r := (-1000000001)) hx hb hml hown hts hl.1 hK hE hA lkX6_305 (c_X6_wrongBook_1n x a q g nn mv S j h hj hz hI hh) ⟨Nat.le_of_ble_eq_true rfl, Nat.le_of_ble_eq_true rfl⟩ ⟨Nat.zero_le _, Nat.zero_le _⟩ hw 0 4 rfl rfl rfl rfl (Nat.le_of_ble_eq_true rfl) dX6_read_3 (fun H locs hw => ?_)
    have hw : zHw x A s.heap (zMW x a q g (zNM nn mv) (zflat S)) H locs := hw
    refine lv_istore_n (lv' := [(3, .int (-1000000001)), (0, .ref (a 0)), (1, .int (nI j)), (2, .int h)]) hx hb dX6_read_6 rfl hl (by decide) rfl (fun ls hl => ?_)
    refine lv_iload_n hx hb dX6_read_7 rfl (lv_at hl 0 rfl) ?_
    refine lv_if_eq (tgt := 17) hx hb dX6_read_8 (by decide) (fun c8 => absurd c8 (by decide)) (fun c8 => ?_)
    refine lv_aload_n hx hb dX6_read_11 rfl (lv_at hl 1 rfl) ?_
    refine lv_iload_n hx hb dX6_read_12 rfl (lv_at hl 0 rfl) ?_
    refine zcVwi (r := (-1000000001)) hx hb hml hown hts hl.1 hK hE hA lkX6_64 (c_X6_finds x a q g (zNM nn mv) (zflat S) (-1000000001) 0 (by decide) (by decide)) ⟨Nat.le_of_ble_eq_true rfl, Nat.le_of_ble_eq_true rfl⟩ ⟨Nat.zero_le _, Nat.zero_le _⟩ hw 0 4 rfl rfl rfl rfl (Nat.le_of_ble_eq_true rfl) dX6_read_13 (fun H locs hw => ?_)
    have hw : zHw x A s.heap (zMW x a q (zU g 5 0 (g 5 0 + 1)) (zNM nn mv) (zflat S)) H locs := hw
    exact zFG.iret hx hb hr hlocks hQ hw rfl dX6_read_16 (by rw [show zm_read (g 7) (g 8) nn S (g 5) (nI j) h = ((-1000000001), zFd (g 5) 0) from (by unfold zm_read; rw [if_pos (z4_of hj), zc_nI (show j < 2147483648 by omega), if_neg hz, if_neg hh])]; exact ⟨rfl, zPS.mk (zK1 g 0)⟩)
  · refine lv_aload_n hx hb dX6_read_0 rfl (lv_at hl 0 rfl) ?_
    refine lv_iload_n hx hb dX6_read_1 rfl (lv_at hl 1 rfl) ?_
    refine lv_iload_n hx hb dX6_read_2 rfl (lv_at hl 2 rfl) ?_
    refine zcVwi (r := 0) hx hb hml hown hts hl.1 hK hE hA lkX6_305 (c_X6_wrongBook_1 x a q g nn mv S j h hj hz hI hh) ⟨Nat.le_of_ble_eq_true rfl, Nat.le_of_ble_eq_true rfl⟩ ⟨Nat.zero_le _, Nat.zero_le _⟩ hw 0 4 rfl rfl rfl rfl (Nat.le_of_ble_eq_true rfl) dX6_read_3 (fun H locs hw => ?_)
    have hw : zHw x A s.heap (zMW x a q g (zNM nn mv) (zflat S)) H locs := hw
    refine lv_istore_n (lv' := [(3, .int 0), (0, .ref (a 0)), (1, .int (nI j)), (2, .int h)]) hx hb dX6_read_6 rfl hl (by decide) rfl (fun ls hl => ?_)
    refine lv_iload_n hx hb dX6_read_7 rfl (lv_at hl 0 rfl) ?_
    refine lv_if_eq (tgt := 17) hx hb dX6_read_8 (by decide) (fun c8 => ?_) (fun c8 => absurd (by decide) c8)
    obtain ⟨-, n4, hn4, hs4⟩ := hS j hj
    obtain ⟨i0, hi08, hi0N, rfl⟩ := zH_nat hI hh
    refine lv_aload_n hx hb dX6_read_17 rfl (lv_at hl 1 rfl) ?_
    refine zcVwv hx hb hml hown hts hl.1 hK hE hA lkX6_165 (c_X6_laysAside x a q g (zNM nn mv) (zflat S)) ⟨Nat.le_of_ble_eq_true rfl, Nat.le_of_ble_eq_true rfl⟩ ⟨Nat.zero_le _, Nat.zero_le _⟩ hw 0 4 rfl rfl rfl rfl (Nat.le_of_ble_eq_true rfl) dX6_read_18 (fun H locs hw => ?_)
    have hw : zHw x A s.heap (zMW x a q (zV g 4 (zflat S)) (zNM nn mv) (zflat S)) H locs := hw
    refine lv_iconst (v := 0) hx hb dX6_read_21 (by decide) ?_
    refine lv_istore (lv' := [(4, .int 0), (3, .int 0), (0, .ref (a 0)), (1, .int (nI j)), (2, .int (nI i0))]) hx hb dX6_read_22 hl (by decide) rfl (fun ls hl => ?_)
    refine lv_iconst (v := 0) hx hb dX6_read_24 (by decide) ?_
    refine lv_istore (lv' := [(5, .int 0), (4, .int 0), (3, .int 0), (0, .ref (a 0)), (1, .int (nI j)), (2, .int (nI i0))]) hx hb dX6_read_25 hl (by decide) rfl (fun ls hl => ?_)
    have loop27 : ∀ (dd : Nat) (k : Nat), 18 - k < dd → (hk : k ≤ 18) → ∀ (H : Heap) (locs : List Loc) (ls : Array Slot), zHw x A s.heap (zMW x a q (zV g 4 (zflat S)) (zNM nn mv) (zflat S)) H locs → lv_has ls 6 [(0, .ref (a 0)), (1, .int (nI j)), (2, .int (nI i0)), (4, .int (nI (zRp (nn j) n4 S i0 k))), (5, .int (nI k))] → W p x.1 e (zRM 8) s m ar below meth c H locs 0 0 Q (F0 m 27 ls []) := by
      intro dd
      induction dd with
      | zero => intro k hm; exact absurd hm (Nat.not_lt_zero _)
      | succ dd ih27 =>
        intro k hm hk H locs ls hw hl
        refine lv_iload hx hb dX6_read_27 (lv_at hl 4 rfl) ?_
        refine lv_bipush (v := 18) hx hb dX6_read_29 (by decide) ?_
        refine lv_icmp_ge (tgt := 102) hx hb dX6_read_31 (by decide) (fun c31 => ?_) (fun c31 => ?_)
        · have hke : k = 18 := zke (v := 18) rfl (by omega) hk c31
          refine lv_iload hx hb dX6_read_102 (lv_at hl 3 rfl) ?_
          exact zFG.iret hx hb hr hlocks hQ hw rfl dX6_read_104 (by rw [show zm_read (g 7) (g 8) nn S (g 5) (nI j) (nI i0) = (nI (zRp (nn j) n4 S i0 k), g 5) from (by unfold zm_read; rw [if_pos (z4_of hj), zc_nI (show j < 2147483648 by omega), if_neg hz, if_pos hh, zc_nI (show i0 < 2147483648 by omega), hs4, zc_nI (show n4 < 2147483648 by omega), hke])]; exact ⟨rfl, zPS.mk (zK2 g (zflat S))⟩)
        · have hkn : k < 18 := zkn (v := 18) rfl (by omega) hk c31
          refine lv_aload_n hx hb dX6_read_34 rfl (lv_at hl 0 rfl) ?_
          refine gfX6_7 hx hb hown hts hK hw 0 rfl rfl dX6_read_35 ?_
          refine lv_iload_n hx hb dX6_read_38 rfl (lv_at hl 2 rfl) ?_
          refine lv_iconst (v := 0) hx hb dX6_read_39 (by decide) ?_
          refine zcSwi (r := nI (19 + 6 * i0 + 0)) hx hb hml hown hts hl.1 hK hE hA lkX6_52 (c_X6_spotOf x (zMW x a q (zV g 4 (zflat S)) (zNM nn mv) (zflat S)) i0 0) ⟨Nat.le_of_ble_eq_true rfl, Nat.le_of_ble_eq_true rfl⟩ ⟨Nat.zero_le _, Nat.zero_le _⟩ hw rfl rfl (Nat.le_of_ble_eq_true rfl) dX6_read_40 (fun H locs hw => ?_)
          have hw : zHw x A s.heap (zMW x a q (zV g 4 (zflat S)) (zNM nn mv) (zflat S)) H locs := hw
          refine lv_iload hx hb dX6_read_43 (lv_at hl 4 rfl) ?_
          refine lv_iconst (v := 3) hx hb dX6_read_45 (by decide) ?_
          refine lv_idiv hx hb dX6_read_46 (by decide) ?_
          refine W.eq (g2 := F0 m 47 ls [.int (nI (k / 3)), .int (nI (19 + 6 * i0 + 0)), .ref (a 1)]) (by rw [show nI k / 3 = nI (k / 3) from pk_div (a := k) (d := 3) (by omega) (by decide) (by decide)]) ?_
          refine zias2 (f' := zflat (zU S 3 i0 (nI (k / 3)))) hx hb hK hw 1 0 (19 + 6 * i0 + 0) rfl rfl rfl (by omega) (by decide) dX6_read_47 (zflat_uit S _ (by omega)) (fun H locs hw => ?_)
          have hw : zHw x A s.heap (zMW x a q (zV g 4 (zflat S)) (zNM nn mv) (zflat (zU S 3 i0 (nI (k / 3))))) H locs := hw
          refine lv_aload_n hx hb dX6_read_48 rfl (lv_at hl 0 rfl) ?_
          refine gfX6_7 hx hb hown hts hK hw 0 rfl rfl dX6_read_49 ?_
          refine lv_iload_n hx hb dX6_read_52 rfl (lv_at hl 2 rfl) ?_
          refine lv_iconst (v := 3) hx hb dX6_read_53 (by decide) ?_
          refine zcSwi (r := nI (19 + 6 * i0 + 3)) hx hb hml hown hts hl.1 hK hE hA lkX6_52 (c_X6_spotOf x (zMW x a q (zV g 4 (zflat S)) (zNM nn mv) (zflat (zU S 3 i0 (nI (k / 3))))) i0 3) ⟨Nat.le_of_ble_eq_true rfl, Nat.le_of_ble_eq_true rfl⟩ ⟨Nat.zero_le _, Nat.zero_le _⟩ hw rfl rfl (Nat.le_of_ble_eq_true rfl) dX6_read_54 (fun H locs hw => ?_)
          have hw : zHw x A s.heap (zMW x a q (zV g 4 (zflat S)) (zNM nn mv) (zflat (zU S 3 i0 (nI (k / 3))))) H locs := hw
          refine lv_iload hx hb dX6_read_57 (lv_at hl 4 rfl) ?_
          refine lv_iconst (v := 3) hx hb dX6_read_59 (by decide) ?_
          refine lv_irem hx hb dX6_read_60 (by decide) ?_
          refine W.eq (g2 := F0 m 61 ls [.int (nI (k % 3)), .int (nI (19 + 6 * i0 + 3)), .ref (a 1)]) (by rw [show nI k - nI k / 3 * 3 = nI (k % 3) from pk_rem (a := k) (d := 3) (by omega) (by decide) (by decide)]) ?_
          refine zias2 (f' := zflat (zU (zU S 3 i0 (nI (k / 3))) 6 i0 (nI (k % 3)))) hx hb hK hw 1 0 (19 + 6 * i0 + 3) rfl rfl rfl (by omega) (by decide) dX6_read_61 (zflat_uit (zU S 3 i0 (nI (k / 3))) _ (by omega)) (fun H locs hw => ?_)
          have hw : zHw x A s.heap (zMW x a q (zV g 4 (zflat S)) (zNM nn mv) (zflat (zU (zU S 3 i0 (nI (k / 3))) 6 i0 (nI (k % 3))))) H locs := hw
          refine lv_aload_n hx hb dX6_read_62 rfl (lv_at hl 0 rfl) ?_
          refine gfX6_7 hx hb hown hts hK hw 0 rfl rfl dX6_read_63 ?_
          refine lv_iload_n hx hb dX6_read_66 rfl (lv_at hl 2 rfl) ?_
          refine lv_iconst (v := 4) hx hb dX6_read_67 (by decide) ?_
          refine zcSwi (r := nI (19 + 6 * i0 + 4)) hx hb hml hown hts hl.1 hK hE hA lkX6_52 (c_X6_spotOf x (zMW x a q (zV g 4 (zflat S)) (zNM nn mv) (zflat (zU (zU S 3 i0 (nI (k / 3))) 6 i0 (nI (k % 3))))) i0 4) ⟨Nat.le_of_ble_eq_true rfl, Nat.le_of_ble_eq_true rfl⟩ ⟨Nat.zero_le _, Nat.zero_le _⟩ hw rfl rfl (Nat.le_of_ble_eq_true rfl) dX6_read_68 (fun H locs hw => ?_)
          have hw : zHw x A s.heap (zMW x a q (zV g 4 (zflat S)) (zNM nn mv) (zflat (zU (zU S 3 i0 (nI (k / 3))) 6 i0 (nI (k % 3))))) H locs := hw
          refine lv_iconst (v := 0) hx hb dX6_read_71 (by decide) ?_
          refine zias2 (f' := zflat (zU (zU (zU S 3 i0 (nI (k / 3))) 6 i0 (nI (k % 3))) 7 i0 0)) hx hb hK hw 1 0 (19 + 6 * i0 + 4) rfl rfl rfl (by omega) (by decide) dX6_read_72 (zflat_uit (zU (zU S 3 i0 (nI (k / 3))) 6 i0 (nI (k % 3))) _ (by omega)) (fun H locs hw => ?_)
          have hw : zHw x A s.heap (zMW x a q (zV g 4 (zflat S)) (zNM nn mv) (zflat (zU (zU (zU S 3 i0 (nI (k / 3))) 6 i0 (nI (k % 3))) 7 i0 0))) H locs := hw
          have hw : zHw x A s.heap (zMW x a q (zV g 4 (zflat S)) (zNM nn mv) (zflat (zpa S i0 k))) H locs := hw
          refine lv_aload_n hx hb dX6_read_73 rfl (lv_at hl 0 rfl) ?_
          refine lv_iload hx hb dX6_read_74 (lv_at hl 3 rfl) ?_
          refine lv_aload_n hx hb dX6_read_76 rfl (lv_at hl 0 rfl) ?_
          refine lv_iload_n hx hb dX6_read_77 rfl (lv_at hl 1 rfl) ?_
          refine lv_iload_n hx hb dX6_read_78 rfl (lv_at hl 2 rfl) ?_
          refine zcVw hx hb hml hown hts hl.1 hK hE hA lkX6_308 (c_X6_isBook x a q (zV g 4 (zflat S)) nn mv (zpa S i0 k) j i0 n4 hj (zpa_inv hI hkn) (by omega) hs4 hn4) ⟨Nat.le_of_ble_eq_true rfl, Nat.le_of_ble_eq_true rfl⟩ ⟨Nat.zero_le _, Nat.zero_le _⟩ hw 0 4 rfl rfl rfl rfl (Nat.le_of_ble_eq_true rfl) dX6_read_79 (fun vv uu H locs hp hw => ?_)
          obtain ⟨rfl, T3, rfl⟩ := hp
          refine W.eq (g2 := F0 m 82 ls [.int (zb (zIb (nn j) i0 n4 0 (zpa S i0 k) = true)), .int (nI (zRp (nn j) n4 S i0 k)), .ref (a 0)]) rfl ?_
          have hw : zHw x A s.heap (zMW x a q (zV g 4 (zflat S)) (zNM nn mv) (zflat T3)) H locs := hw
          refine lv_if_eq (tgt := 89) hx hb dX6_read_82 (by decide) (fun c82 => ?_) (fun c82 => ?_)
          · have c82 := zb_0.mp c82
            refine lv_iconst (v := 0) hx hb dX6_read_89 (by decide) ?_
            refine lv_iadd hx hb dX6_read_90 ?_
            refine W.eq (g2 := F0 m 91 ls [.int (nI (zRp (nn j) n4 S i0 (k + 1))), .ref (a 0)]) (by rw [show zRp (nn j) n4 S i0 (k + 1) = zRp (nn j) n4 S i0 k from (by show _ + _ = _; rw [if_neg c82, Nat.add_zero])]; rw [zadd0]) ?_
            refine zcVwi (r := nI (zRp (nn j) n4 S i0 (k + 1))) hx hb hml hown hts hl.1 hK hE hA lkX6_168 (c_X6_takesBack x a q (zV g 4 (zflat S)) (zNM nn mv) (zflat T3) (nI (zRp (nn j) n4 S i0 (k + 1)))) ⟨Nat.le_of_ble_eq_true rfl, Nat.le_of_ble_eq_true rfl⟩ ⟨Nat.zero_le _, Nat.zero_le _⟩ hw 0 4 rfl rfl rfl rfl (Nat.le_of_ble_eq_true rfl) dX6_read_91 (fun H locs hw => ?_)
            have hw : zHw x A s.heap (zMW x a q (zV g 4 (zflat S)) (zNM nn mv) (zflat S)) H locs := hw
            refine lv_istore (lv' := [(4, .int (nI (zRp (nn j) n4 S i0 (k + 1)))), (0, .ref (a 0)), (1, .int (nI j)), (2, .int (nI i0)), (5, .int (nI k))]) hx hb dX6_read_94 hl (by decide) rfl (fun ls hl => ?_)
            refine lv_iinc (v := nI (k + 1)) (lv' := [(5, .int (nI (k + 1))), (4, .int (nI (zRp (nn j) n4 S i0 (k + 1)))), (0, .ref (a 0)), (1, .int (nI j)), (2, .int (nI i0))]) hx hb dX6_read_96 hl (k := 4) rfl (nI_1 k) (by decide) rfl (fun ls hl => ?_)
            refine lv_goto (tgt := 27) hx hb dX6_read_99 (by decide) ?_
            exact ih27 (k + 1) (by omega) (by omega) _ _ _ hw (lv_sub hl [2, 3, 4, 1, 0] rfl)
          · have c82 := zb_n0.mp c82
            refine lv_iconst (v := 1) hx hb dX6_read_85 (by decide) ?_
            refine lv_goto (tgt := 90) hx hb dX6_read_86 (by decide) ?_
            refine lv_iadd hx hb dX6_read_90 ?_
            refine W.eq (g2 := F0 m 91 ls [.int (nI (zRp (nn j) n4 S i0 (k + 1))), .ref (a 0)]) (by rw [show zRp (nn j) n4 S i0 (k + 1) = zRp (nn j) n4 S i0 k + 1 from (by show _ + _ = _; rw [if_pos c82])]; rw [nI_1]) ?_
            refine zcVwi (r := nI (zRp (nn j) n4 S i0 (k + 1))) hx hb hml hown hts hl.1 hK hE hA lkX6_168 (c_X6_takesBack x a q (zV g 4 (zflat S)) (zNM nn mv) (zflat T3) (nI (zRp (nn j) n4 S i0 (k + 1)))) ⟨Nat.le_of_ble_eq_true rfl, Nat.le_of_ble_eq_true rfl⟩ ⟨Nat.zero_le _, Nat.zero_le _⟩ hw 0 4 rfl rfl rfl rfl (Nat.le_of_ble_eq_true rfl) dX6_read_91 (fun H locs hw => ?_)
            have hw : zHw x A s.heap (zMW x a q (zV g 4 (zflat S)) (zNM nn mv) (zflat S)) H locs := hw
            refine lv_istore (lv' := [(4, .int (nI (zRp (nn j) n4 S i0 (k + 1)))), (0, .ref (a 0)), (1, .int (nI j)), (2, .int (nI i0)), (5, .int (nI k))]) hx hb dX6_read_94 hl (by decide) rfl (fun ls hl => ?_)
            refine lv_iinc (v := nI (k + 1)) (lv' := [(5, .int (nI (k + 1))), (4, .int (nI (zRp (nn j) n4 S i0 (k + 1)))), (0, .ref (a 0)), (1, .int (nI j)), (2, .int (nI i0))]) hx hb dX6_read_96 hl (k := 4) rfl (nI_1 k) (by decide) rfl (fun ls hl => ?_)
            refine lv_goto (tgt := 27) hx hb dX6_read_99 (by decide) ?_
            exact ih27 (k + 1) (by omega) (by omega) _ _ _ hw (lv_sub hl [2, 3, 4, 1, 0] rfl)
    exact loop27 (_ + 1) 0 (Nat.lt_succ_self _) (Nat.zero_le _) _ _ _ hw (lv_sub hl [3, 4, 5, 1, 0] rfl)
