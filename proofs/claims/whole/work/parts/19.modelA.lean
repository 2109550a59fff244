theorem c_X6_inI (x : zX) (w : va_W) (v lo hi : Int32) : zFF x mX6_in 0 [.long v.toInt64, .long lo.toInt64, .long hi.toInt64] w (some (.int (zb (lo ≤ v ∧ v ≤ hi)))) w := by
  have h := c_X6_in x w v.toInt64 lo.toInt64 hi.toInt64
  rw [show zb (lo.toInt64 ≤ v.toInt64 ∧ v.toInt64 ≤ hi.toInt64) = zb (lo ≤ v ∧ v ≤ hi) from zb_iff (by rw [zwle, zwle])] at h
  exact h

set_option maxHeartbeats 4000000 in
set_option maxRecDepth 100000 in
theorem c_X6_isFar (x : zX) (w : va_W) (v lo hi : Int32) : zFF x mX6_isFar 1 [.int v, .int lo, .int hi] (w) (some (.int (zb (lo ≤ v ∧ v ≤ hi)))) (w) := by
  refine zFG.start RX6 cX6_isFar 3 (some .boolean) rfl rfl (by decide +kernel) (Nat.le_of_ble_eq_true rfl) ?_
  intro p e s m ar below meth c ls A Q hx hb hr hml hown hts hlocks hK hE hA hQ hl hw
  have hl : lv_has ls 3 [(0, .int v), (1, .int lo), (2, .int hi)] := hl
  have hw : zHw x A s.heap (w) s.heap [] := hw
  refine lv_iload_n hx hb dX6_isFar_0 rfl (lv_at hl 0 rfl) ?_
  refine lv_i2l hx hb dX6_isFar_1 rfl ?_
  refine lv_iload_n hx hb dX6_isFar_2 rfl (lv_at hl 1 rfl) ?_
  refine lv_i2l hx hb dX6_isFar_3 rfl ?_
  refine lv_iload_n hx hb dX6_isFar_4 rfl (lv_at hl 2 rfl) ?_
  refine lv_i2l hx hb dX6_isFar_5 rfl ?_
  refine zcSwi (r := zb (lo ≤ v ∧ v ≤ hi)) hx hb hml hown hts hl.1 hK hE hA lkX6_48 (c_X6_inI x (w) v lo hi) ⟨Nat.le_of_ble_eq_true rfl, Nat.le_of_ble_eq_true rfl⟩ ⟨Nat.zero_le _, Nat.zero_le _⟩ hw rfl rfl (Nat.le_of_ble_eq_true rfl) dX6_isFar_6 (fun H locs hw => ?_)
  have hw : zHw x A s.heap (w) H locs := hw
  exact zFG.zret hx hb hr hlocks hQ hw rfl dX6_isFar_9 (zb2i_nar _) ⟨rfl, rfl⟩

set_option maxHeartbeats 4000000 in
set_option maxRecDepth 100000 in
theorem c_X6_town (x : zX) (a : Nat → Nat) (q : Nat → Int32) (g : zT) (nu : Nat → Nat → Int64) (S : zT) (w v : Int32) (hI : zInv S) : zFG x mX6_town 1 [.ref (a 0), .int w, .int v] (zMW x a q g nu (zflat S)) (zPM x a q g nu (zm_town S (g 5) w v)) := by
  refine zFG.start RX6 cX6_town 4 (some .int) rfl rfl (by decide +kernel) (Nat.le_of_ble_eq_true rfl) ?_
  intro p e s m ar below meth c ls A Q hx hb hr hml hown hts hlocks hK hE hA hQ hl hw
  have hl : lv_has ls 4 [(0, .ref (a 0)), (1, .int w), (2, .int v)] := hl
  have hw : zHw x A s.heap (zMW x a q g nu (zflat S)) s.heap [] := hw
  refine lv_iload_n hx hb dX6_town_0 rfl (lv_at hl 1 rfl) ?_
  refine lv_i2l hx hb dX6_town_1 rfl ?_
  refine lv_lconst (v := 0) hx hb dX6_town_2 (by decide) ?_
  refine lv_ldc2 (v := 3) hx hb hown (hts _ ckX6_55) dX6_town_3 ?_
  refine zcSwi (r := zb (0 ≤ w ∧ w ≤ 3)) hx hb hml hown hts hl.1 hK hE hA lkX6_48 (c_X6_inI x (zMW x a q g nu (zflat S)) w 0 3) ⟨Nat.le_of_ble_eq_true rfl, Nat.le_of_ble_eq_true rfl⟩ ⟨Nat.zero_le _, Nat.zero_le _⟩ hw rfl rfl (Nat.le_of_ble_eq_true rfl) dX6_town_6 (fun H locs hw => ?_)
  have hw : zHw x A s.heap (zMW x a q g nu (zflat S)) H locs := hw
  refine lv_if_eq (tgt := 48) hx hb dX6_town_9 (by decide) (fun c9 => ?_) (fun c9 => ?_)
  · have c9 := zb_0.mp c9
    refine lv_iconst (v := 0) hx hb dX6_town_48 (by decide) ?_
    refine lv_istore_n (lv' := [(3, .int 0), (0, .ref (a 0)), (1, .int w), (2, .int v)]) hx hb dX6_town_49 rfl hl (by decide) rfl (fun ls hl => ?_)
    refine lv_iload_n hx hb dX6_town_50 rfl (lv_at hl 0 rfl) ?_
    refine lv_if_eq (tgt := 65) hx hb dX6_town_51 (by decide) (fun c51 => ?_) (fun c51 => absurd (by decide) c51)
    refine lv_aload_n hx hb dX6_town_65 rfl (lv_at hl 1 rfl) ?_
    refine lv_ldc (v := (-1000000001)) hx hb hown (hts _ ckX6_45) dX6_town_66 ?_
    refine zcVwi (r := (-1000000001)) hx hb hml hown hts hl.1 hK hE hA lkX6_64 (c_X6_finds x a q g nu (zflat S) (-1000000001) 0 (by decide) (by decide)) ⟨Nat.le_of_ble_eq_true rfl, Nat.le_of_ble_eq_true rfl⟩ ⟨Nat.zero_le _, Nat.zero_le _⟩ hw 0 4 rfl rfl rfl rfl (Nat.le_of_ble_eq_true rfl) dX6_town_68 (fun H locs hw => ?_)
    have hw : zHw x A s.heap (zMW x a q (zU g 5 0 (g 5 0 + 1)) nu (zflat S)) H locs := hw
    exact zFG.iret hx hb hr hlocks hQ hw rfl dX6_town_71 (zPM.mk (t := zm_town S (g 5) w v) (r := (-1000000001)) (S' := S) (fd' := zFd (g 5) 0) (by unfold zm_town; rw [if_neg (fun h => c9 h.1)]; rfl) (g 4) (congrArg (fun z => zMW x a q z nu _) (zG1 g 0)))
  · have c9 := zb_n0.mp c9
    refine lv_iload_n hx hb dX6_town_12 rfl (lv_at hl 2 rfl) ?_
    refine lv_i2l hx hb dX6_town_13 rfl ?_
    refine lv_lconst (v := 0) hx hb dX6_town_14 (by decide) ?_
    refine lv_iload_n hx hb dX6_town_15 rfl (lv_at hl 1 rfl) ?_
    refine lv_iconst (v := 2) hx hb dX6_town_16 (by decide) ?_
    refine lv_icmp_ge (tgt := 26) hx hb dX6_town_17 (by decide) (fun c17 => ?_) (fun c17 => ?_)
    · refine lv_iload_n hx hb dX6_town_26 rfl (lv_at hl 1 rfl) ?_
      refine lv_iconst (v := 2) hx hb dX6_town_27 (by decide) ?_
      refine lv_icmp_ne (tgt := 37) hx hb dX6_town_28 (by decide) (fun c28 => ?_) (fun c28 => ?_)
      · refine lv_lconst (v := 1) hx hb dX6_town_37 (by decide) ?_
        refine zcSwi (r := zb (0 ≤ v ∧ v ≤ 1)) hx hb hml hown hts hl.1 hK hE hA lkX6_48 (c_X6_inI x (zMW x a q g nu (zflat S)) v 0 1) ⟨Nat.le_of_ble_eq_true rfl, Nat.le_of_ble_eq_true rfl⟩ ⟨Nat.zero_le _, Nat.zero_le _⟩ hw rfl rfl (Nat.le_of_ble_eq_true rfl) dX6_town_38 (fun H locs hw => ?_)
        have hw : zHw x A s.heap (zMW x a q g nu (zflat S)) H locs := hw
        refine lv_if_eq (tgt := 48) hx hb dX6_town_41 (by decide) (fun c41 => ?_) (fun c41 => ?_)
        · have c41 := zb_0.mp c41
          refine lv_iconst (v := 0) hx hb dX6_town_48 (by decide) ?_
          refine lv_istore_n (lv' := [(3, .int 0), (0, .ref (a 0)), (1, .int w), (2, .int v)]) hx hb dX6_town_49 rfl hl (by decide) rfl (fun ls hl => ?_)
          refine lv_iload_n hx hb dX6_town_50 rfl (lv_at hl 0 rfl) ?_
          refine lv_if_eq (tgt := 65) hx hb dX6_town_51 (by decide) (fun c51 => ?_) (fun c51 => absurd (by decide) c51)
          refine lv_aload_n hx hb dX6_town_65 rfl (lv_at hl 1 rfl) ?_
          refine lv_ldc (v := (-1000000001)) hx hb hown (hts _ ckX6_45) dX6_town_66 ?_
          refine zcVwi (r := (-1000000001)) hx hb hml hown hts hl.1 hK hE hA lkX6_64 (c_X6_finds x a q g nu (zflat S) (-1000000001) 0 (by decide) (by decide)) ⟨Nat.le_of_ble_eq_true rfl, Nat.le_of_ble_eq_true rfl⟩ ⟨Nat.zero_le _, Nat.zero_le _⟩ hw 0 4 rfl rfl rfl rfl (Nat.le_of_ble_eq_true rfl) dX6_town_68 (fun H locs hw => ?_)
          have hw : zHw x A s.heap (zMW x a q (zU g 5 0 (g 5 0 + 1)) nu (zflat S)) H locs := hw
          exact zFG.iret hx hb hr hlocks hQ hw rfl dX6_town_71 (zPM.mk (t := zm_town S (g 5) w v) (r := (-1000000001)) (S' := S) (fd' := zFd (g 5) 0) (by unfold zm_town; rw [if_neg (fun h => c41 (by have h2 := h.2; unfold ztopT at h2; first | (rw [if_pos (Int32.not_le.mp c17)] at h2; exact h2) | (rw [if_neg (Int32.not_lt.mpr c17), if_pos c28] at h2; exact h2) | (rw [if_neg (Int32.not_lt.mpr c17), if_neg c28] at h2; exact h2)))]; rfl) (g 4) (congrArg (fun z => zMW x a q z nu _) (zG1 g 0)))
        · have c41 := zb_n0.mp c41
          refine lv_iconst (v := 1) hx hb dX6_town_44 (by decide) ?_
          refine lv_goto (tgt := 49) hx hb dX6_town_45 (by decide) ?_
          refine lv_istore_n (lv' := [(3, .int 1), (0, .ref (a 0)), (1, .int w), (2, .int v)]) hx hb dX6_town_49 rfl hl (by decide) rfl (fun ls hl => ?_)
          refine lv_iload_n hx hb dX6_town_50 rfl (lv_at hl 0 rfl) ?_
          refine lv_if_eq (tgt := 65) hx hb dX6_town_51 (by decide) (fun c51 => absurd c51 (by decide)) (fun c51 => ?_)
          obtain ⟨j, hj, rfl⟩ := zBw_nat (hi := 3) c9 (by decide) (by decide)
          refine lv_aload_n hx hb dX6_town_54 rfl (lv_at hl 1 rfl) ?_
          refine lv_iconst (v := 2) hx hb dX6_town_55 (by decide) ?_
          refine lv_iload_n hx hb dX6_town_56 rfl (lv_at hl 2 rfl) ?_
          refine lv_iadd hx hb dX6_town_57 ?_
          refine W.eq (g2 := F0 m 58 ls [.int (nI (2 + j)), .ref (a 0)]) (by rw [show (2 : Int32) + nI j = nI (2 + j) from nI_add 2 j]) ?_
          refine lv_iload_n hx hb dX6_town_58 rfl (lv_at hl 3 rfl) ?_
          refine zcVwi (r := zflat S (2 + j)) hx hb hml hown hts hl.1 hK hE hA lkX6_61 (c_X6_becomes x a q g nu (zflat S) (2 + j) v (by omega)) ⟨Nat.le_of_ble_eq_true rfl, Nat.le_of_ble_eq_true rfl⟩ ⟨Nat.zero_le _, Nat.zero_le _⟩ hw 0 4 rfl rfl rfl rfl (Nat.le_of_ble_eq_true rfl) dX6_town_59 (fun H locs hw => ?_)
          have hw : zHw x A s.heap (zMW x a q g nu (zflat (zU S 0 (2 + j) v))) H locs := (by rw [zflat_usc S v (show 2 + j < 7 by omega)] at hw; exact hw)
          refine W.eq (g2 := F0 m 62 ls [.int (S 0 (2 + j))]) (by rw [zflat_sc S (show 2 + j < 7 by omega)]) ?_
          refine lv_goto (tgt := 71) hx hb dX6_town_62 (by decide) ?_
          exact zFG.iret hx hb hr hlocks hQ hw rfl dX6_town_71 (zPM.mk (t := zm_town S (g 5) (nI j) v) (r := S 0 (2 + j)) (S' := zU S 0 (2 + j) v) (fd' := g 5) (by unfold zm_town; rw [if_pos ⟨c9, by unfold ztopT; first | (rw [if_pos (Int32.not_le.mp c17)]; exact c41) | (rw [if_neg (Int32.not_lt.mpr c17), if_pos c28]; exact c41) | (rw [if_neg (Int32.not_lt.mpr c17), if_neg c28]; exact c41)⟩, zc_nI (show j < 2147483648 by omega)]) (g 4) (congrArg (fun z => zMW x a q z nu _) (zG0 g)))
      · refine lv_ldc2 (v := 6) hx hb hown (hts _ ckX6_59) dX6_town_31 ?_
        refine lv_goto (tgt := 38) hx hb dX6_town_34 (by decide) ?_
        refine zcSwi (r := zb (0 ≤ v ∧ v ≤ 6)) hx hb hml hown hts hl.1 hK hE hA lkX6_48 (c_X6_inI x (zMW x a q g nu (zflat S)) v 0 6) ⟨Nat.le_of_ble_eq_true rfl, Nat.le_of_ble_eq_true rfl⟩ ⟨Nat.zero_le _, Nat.zero_le _⟩ hw rfl rfl (Nat.le_of_ble_eq_true rfl) dX6_town_38 (fun H locs hw => ?_)
        have hw : zHw x A s.heap (zMW x a q g nu (zflat S)) H locs := hw
        refine lv_if_eq (tgt := 48) hx hb dX6_town_41 (by decide) (fun c41 => ?_) (fun c41 => ?_)
        · have c41 := zb_0.mp c41
          refine lv_iconst (v := 0) hx hb dX6_town_48 (by decide) ?_
          refine lv_istore_n (lv' := [(3, .int 0), (0, .ref (a 0)), (1, .int w), (2, .int v)]) hx hb dX6_town_49 rfl hl (by decide) rfl (fun ls hl => ?_)
          refine lv_iload_n hx hb dX6_town_50 rfl (lv_at hl 0 rfl) ?_
          refine lv_if_eq (tgt := 65) hx hb dX6_town_51 (by decide) (fun c51 => ?_) (fun c51 => absurd (by decide) c51)
          refine lv_aload_n hx hb dX6_town_65 rfl (lv_at hl 1 rfl) ?_
          refine lv_ldc (v := (-1000000001)) hx hb hown (hts _ ckX6_45) dX6_town_66 ?_
          refine zcVwi (r := (-1000000001)) hx hb hml hown hts hl.1 hK hE hA lkX6_64 (c_X6_finds x a q g nu (zflat S) (-1000000001) 0 (by decide) (by decide)) ⟨Nat.le_of_ble_eq_true rfl, Nat.le_of_ble_eq_true rfl⟩ ⟨Nat.zero_le _, Nat.zero_le _⟩ hw 0 4 rfl rfl rfl rfl (Nat.le_of_ble_eq_true rfl) dX6_town_68 (fun H locs hw => ?_)
          have hw : zHw x A s.heap (zMW x a q (zU g 5 0 (g 5 0 + 1)) nu (zflat S)) H locs := hw
          exact zFG.iret hx hb hr hlocks hQ hw rfl dX6_town_71 (zPM.mk (t := zm_town S (g 5) w v) (r := (-1000000001)) (S' := S) (fd' := zFd (g 5) 0) (by unfold zm_town; rw [if_neg (fun h => c41 (by have h2 := h.2; unfold ztopT at h2; first | (rw [if_pos (Int32.not_le.mp c17)] at h2; exact h2) | (rw [if_neg (Int32.not_lt.mpr c17), if_pos c28] at h2; exact h2) | (rw [if_neg (Int32.not_lt.mpr c17), if_neg c28] at h2; exact h2)))]; rfl) (g 4) (congrArg (fun z => zMW x a q z nu _) (zG1 g 0)))
        · have c41 := zb_n0.mp c41
          refine lv_iconst (v := 1) hx hb dX6_town_44 (by decide) ?_
          refine lv_goto (tgt := 49) hx hb dX6_town_45 (by decide) ?_
          refine lv_istore_n (lv' := [(3, .int 1), (0, .ref (a 0)), (1, .int w), (2, .int v)]) hx hb dX6_town_49 rfl hl (by decide) rfl (fun ls hl => ?_)
          refine lv_iload_n hx hb dX6_town_50 rfl (lv_at hl 0 rfl) ?_
          refine lv_if_eq (tgt := 65) hx hb dX6_town_51 (by decide) (fun c51 => absurd c51 (by decide)) (fun c51 => ?_)
          obtain ⟨j, hj, rfl⟩ := zBw_nat (hi := 3) c9 (by decide) (by decide)
          refine lv_aload_n hx hb dX6_town_54 rfl (lv_at hl 1 rfl) ?_
          refine lv_iconst (v := 2) hx hb dX6_town_55 (by decide) ?_
          refine lv_iload_n hx hb dX6_town_56 rfl (lv_at hl 2 rfl) ?_
          refine lv_iadd hx hb dX6_town_57 ?_
          refine W.eq (g2 := F0 m 58 ls [.int (nI (2 + j)), .ref (a 0)]) (by rw [show (2 : Int32) + nI j = nI (2 + j) from nI_add 2 j]) ?_
          refine lv_iload_n hx hb dX6_town_58 rfl (lv_at hl 3 rfl) ?_
          refine zcVwi (r := zflat S (2 + j)) hx hb hml hown hts hl.1 hK hE hA lkX6_61 (c_X6_becomes x a q g nu (zflat S) (2 + j) v (by omega)) ⟨Nat.le_of_ble_eq_true rfl, Nat.le_of_ble_eq_true rfl⟩ ⟨Nat.zero_le _, Nat.zero_le _⟩ hw 0 4 rfl rfl rfl rfl (Nat.le_of_ble_eq_true rfl) dX6_town_59 (fun H locs hw => ?_)
          have hw : zHw x A s.heap (zMW x a q g nu (zflat (zU S 0 (2 + j) v))) H locs := (by rw [zflat_usc S v (show 2 + j < 7 by omega)] at hw; exact hw)
          refine W.eq (g2 := F0 m 62 ls [.int (S 0 (2 + j))]) (by rw [zflat_sc S (show 2 + j < 7 by omega)]) ?_
          refine lv_goto (tgt := 71) hx hb dX6_town_62 (by decide) ?_
          exact zFG.iret hx hb hr hlocks hQ hw rfl dX6_town_71 (zPM.mk (t := zm_town S (g 5) (nI j) v) (r := S 0 (2 + j)) (S' := zU S 0 (2 + j) v) (fd' := g 5) (by unfold zm_town; rw [if_pos ⟨c9, by unfold ztopT; first | (rw [if_pos (Int32.not_le.mp c17)]; exact c41) | (rw [if_neg (Int32.not_lt.mpr c17), if_pos c28]; exact c41) | (rw [if_neg (Int32.not_lt.mpr c17), if_neg c28]; exact c41)⟩, zc_nI (show j < 2147483648 by omega)]) (g 4) (congrArg (fun z => zMW x a q z nu _) (zG0 g)))
    · refine lv_ldc2 (v := 99999) hx hb hown (hts _ ckX6_57) dX6_town_20 ?_
      refine lv_goto (tgt := 38) hx hb dX6_town_23 (by decide) ?_
      refine zcSwi (r := zb (0 ≤ v ∧ v ≤ 99999)) hx hb hml hown hts hl.1 hK hE hA lkX6_48 (c_X6_inI x (zMW x a q g nu (zflat S)) v 0 99999) ⟨Nat.le_of_ble_eq_true rfl, Nat.le_of_ble_eq_true rfl⟩ ⟨Nat.zero_le _, Nat.zero_le _⟩ hw rfl rfl (Nat.le_of_ble_eq_true rfl) dX6_town_38 (fun H locs hw => ?_)
      have hw : zHw x A s.heap (zMW x a q g nu (zflat S)) H locs := hw
      refine lv_if_eq (tgt := 48) hx hb dX6_town_41 (by decide) (fun c41 => ?_) (fun c41 => ?_)
      · have c41 := zb_0.mp c41
        refine lv_iconst (v := 0) hx hb dX6_town_48 (by decide) ?_
        refine lv_istore_n (lv' := [(3, .int 0), (0, .ref (a 0)), (1, .int w), (2, .int v)]) hx hb dX6_town_49 rfl hl (by decide) rfl (fun ls hl => ?_)
        refine lv_iload_n hx hb dX6_town_50 rfl (lv_at hl 0 rfl) ?_
        refine lv_if_eq (tgt := 65) hx hb dX6_town_51 (by decide) (fun c51 => ?_) (fun c51 => absurd (by decide) c51)
        refine lv_aload_n hx hb dX6_town_65 rfl (lv_at hl 1 rfl) ?_
        refine lv_ldc (v := (-1000000001)) hx hb hown (hts _ ckX6_45) dX6_town_66 ?_
        refine zcVwi (r := (-1000000001)) hx hb hml hown hts hl.1 hK hE hA lkX6_64 (c_X6_finds x a q g nu (zflat S) (-1000000001) 0 (by decide) (by decide)) ⟨Nat.le_of_ble_eq_true rfl, Nat.le_of_ble_eq_true rfl⟩ ⟨Nat.zero_le _, Nat.zero_le _⟩ hw 0 4 rfl rfl rfl rfl (Nat.le_of_ble_eq_true rfl) dX6_town_68 (fun H locs hw => ?_)
        have hw : zHw x A s.heap (zMW x a q (zU g 5 0 (g 5 0 + 1)) nu (zflat S)) H locs := hw
        exact zFG.iret hx hb hr hlocks hQ hw rfl dX6_town_71 (zPM.mk (t := zm_town S (g 5) w v) (r := (-1000000001)) (S' := S) (fd' := zFd (g 5) 0) (by unfold zm_town; rw [if_neg (fun h => c41 (by have h2 := h.2; unfold ztopT at h2; first | (rw [if_pos (Int32.not_le.mp c17)] at h2; exact h2) | (rw [if_neg (Int32.not_lt.mpr c17), if_pos c28] at h2; exact h2) | (rw [if_neg (Int32.not_lt.mpr c17), if_neg c28] at h2; exact h2)))]; rfl) (g 4) (congrArg (fun z => zMW x a q z nu _) (zG1 g 0)))
      · have c41 := zb_n0.mp c41
        refine lv_iconst (v := 1) hx hb dX6_town_44 (by decide) ?_
        refine lv_goto (tgt := 49) hx hb dX6_town_45 (by decide) ?_
        refine lv_istore_n (lv' := [(3, .int 1), (0, .ref (a 0)), (1, .int w), (2, .int v)]) hx hb dX6_town_49 rfl hl (by decide) rfl (fun ls hl => ?_)
        refine lv_iload_n hx hb dX6_town_50 rfl (lv_at hl 0 rfl) ?_
        refine lv_if_eq (tgt := 65) hx hb dX6_town_51 (by decide) (fun c51 => absurd c51 (by decide)) (fun c51 => ?_)
        obtain ⟨j, hj, rfl⟩ := zBw_nat (hi := 3) c9 (by decide) (by decide)
        refine lv_aload_n hx hb dX6_town_54 rfl (lv_at hl 1 rfl) ?_
        refine lv_iconst (v := 2) hx hb dX6_town_55 (by decide) ?_
        refine lv_iload_n hx hb dX6_town_56 rfl (lv_at hl 2 rfl) ?_
        refine lv_iadd hx hb dX6_town_57 ?_
        refine W.eq (g2 := F0 m 58 ls [.int (nI (2 + j)), .ref (a 0)]) (by rw [show (2 : Int32) + nI j = nI (2 + j) from nI_add 2 j]) ?_
        refine lv_iload_n hx hb dX6_town_58 rfl (lv_at hl 3 rfl) ?_
        refine zcVwi (r := zflat S (2 + j)) hx hb hml hown hts hl.1 hK hE hA lkX6_61 (c_X6_becomes x a q g nu (zflat S) (2 + j) v (by omega)) ⟨Nat.le_of_ble_eq_true rfl, Nat.le_of_ble_eq_true rfl⟩ ⟨Nat.zero_le _, Nat.zero_le _⟩ hw 0 4 rfl rfl rfl rfl (Nat.le_of_ble_eq_true rfl) dX6_town_59 (fun H locs hw => ?_)
        have hw : zHw x A s.heap (zMW x a q g nu (zflat (zU S 0 (2 + j) v))) H locs := (by rw [zflat_usc S v (show 2 + j < 7 by omega)] at hw; exact hw)
        refine W.eq (g2 := F0 m 62 ls [.int (S 0 (2 + j))]) (by rw [zflat_sc S (show 2 + j < 7 by omega)]) ?_
        refine lv_goto (tgt := 71) hx hb dX6_town_62 (by decide) ?_
        exact zFG.iret hx hb hr hlocks hQ hw rfl dX6_town_71 (zPM.mk (t := zm_town S (g 5) (nI j) v) (r := S 0 (2 + j)) (S' := zU S 0 (2 + j) v) (fd' := g 5) (by unfold zm_town; rw [if_pos ⟨c9, by unfold ztopT; first | (rw [if_pos (Int32.not_le.mp c17)]; exact c41) | (rw [if_neg (Int32.not_lt.mpr c17), if_pos c28]; exact c41) | (rw [if_neg (Int32.not_lt.mpr c17), if_neg c28]; exact c41)⟩, zc_nI (show j < 2147483648 by omega)]) (g 4) (congrArg (fun z => zMW x a q z nu _) (zG0 g)))

set_option maxHeartbeats 4000000 in
set_option maxRecDepth 100000 in
theorem c_X6_street (x : zX) (a : Nat → Nat) (q : Nat → Int32) (g : zT) (nu : Nat → Nat → Int64) (S : zT) (r w v : Int32) (hI : zInv S) : zFG x mX6_street 2 [.ref (a 0), .int r, .int w, .int v] (zMW x a q g nu (zflat S)) (zPM x a q g nu (zm_street S (g 5) r w v)) := by
  refine zFG.start RX6 cX6_street 5 (some .int) rfl rfl (by decide +kernel) (Nat.le_of_ble_eq_true rfl) ?_
  intro p e s m ar below meth c ls A Q hx hb hr hml hown hts hlocks hK hE hA hQ hl hw
  have hl : lv_has ls 5 [(0, .ref (a 0)), (1, .int r), (2, .int w), (3, .int v)] := hl
  have hw : zHw x A s.heap (zMW x a q g nu (zflat S)) s.heap [] := hw
  refine lv_iload_n hx hb dX6_street_0 rfl (lv_at hl 2 rfl) ?_
  refine lv_i2l hx hb dX6_street_1 rfl ?_
  refine lv_lconst (v := 0) hx hb dX6_street_2 (by decide) ?_
  refine lv_lconst (v := 1) hx hb dX6_street_3 (by decide) ?_
  refine zcSwi (r := zb (0 ≤ w ∧ w ≤ 1)) hx hb hml hown hts hl.1 hK hE hA lkX6_48 (c_X6_inI x (zMW x a q g nu (zflat S)) w 0 1) ⟨Nat.le_of_ble_eq_true rfl, Nat.le_of_ble_eq_true rfl⟩ ⟨Nat.zero_le _, Nat.zero_le _⟩ hw rfl rfl (Nat.le_of_ble_eq_true rfl) dX6_street_4 (fun H locs hw => ?_)
  have hw : zHw x A s.heap (zMW x a q g nu (zflat S)) H locs := hw
  refine lv_if_eq (tgt := 34) hx hb dX6_street_7 (by decide) (fun c7 => ?_) (fun c7 => ?_)
  · have c7 := zb_0.mp c7
    refine lv_iconst (v := 0) hx hb dX6_street_34 (by decide) ?_
    refine lv_istore (lv' := [(4, .int 0), (0, .ref (a 0)), (1, .int r), (2, .int w), (3, .int v)]) hx hb dX6_street_35 hl (by decide) rfl (fun ls hl => ?_)
    refine lv_iload_n hx hb dX6_street_37 rfl (lv_at hl 2 rfl) ?_
    refine zcSwi (r := zb (0 ≤ r ∧ r < 6)) hx hb hml hown hts hl.1 hK hE hA lkX6_70 (c_X6_isStreet x (zMW x a q g nu (zflat S)) r) ⟨Nat.le_of_ble_eq_true rfl, Nat.le_of_ble_eq_true rfl⟩ ⟨Nat.zero_le _, Nat.zero_le _⟩ hw rfl rfl (Nat.le_of_ble_eq_true rfl) dX6_street_38 (fun H locs hw => ?_)
    have hw : zHw x A s.heap (zMW x a q g nu (zflat S)) H locs := hw
    refine lv_if_eq (tgt := 62) hx hb dX6_street_41 (by decide) (fun c41 => ?_) (fun c41 => ?_)
    · have c41 := zb_0.mp c41
      refine lv_aload_n hx hb dX6_street_62 rfl (lv_at hl 1 rfl) ?_
      refine lv_ldc (v := (-1000000001)) hx hb hown (hts _ ckX6_45) dX6_street_63 ?_
      refine zcVwi (r := (-1000000001)) hx hb hml hown hts hl.1 hK hE hA lkX6_64 (c_X6_finds x a q g nu (zflat S) (-1000000001) 0 (by decide) (by decide)) ⟨Nat.le_of_ble_eq_true rfl, Nat.le_of_ble_eq_true rfl⟩ ⟨Nat.zero_le _, Nat.zero_le _⟩ hw 0 4 rfl rfl rfl rfl (Nat.le_of_ble_eq_true rfl) dX6_street_65 (fun H locs hw => ?_)
      have hw : zHw x A s.heap (zMW x a q (zU g 5 0 (g 5 0 + 1)) nu (zflat S)) H locs := hw
      exact zFG.iret hx hb hr hlocks hQ hw rfl dX6_street_68 (zPM.mk (t := zm_street S (g 5) r w v) (r := (-1000000001)) (S' := S) (fd' := zFd (g 5) 0) (by unfold zm_street; rw [if_neg (fun h => c41 h.1)]; rfl) (g 4) (congrArg (fun z => zMW x a q z nu _) (zG1 g 0)))
    · have c41 := zb_n0.mp c41
      refine lv_iload hx hb dX6_street_44 (lv_at hl 0 rfl) ?_
      refine lv_if_eq (tgt := 62) hx hb dX6_street_46 (by decide) (fun c46 => ?_) (fun c46 => absurd (by decide) c46)
      refine lv_aload_n hx hb dX6_street_62 rfl (lv_at hl 1 rfl) ?_
      refine lv_ldc (v := (-1000000001)) hx hb hown (hts _ ckX6_45) dX6_street_63 ?_
      refine zcVwi (r := (-1000000001)) hx hb hml hown hts hl.1 hK hE hA lkX6_64 (c_X6_finds x a q g nu (zflat S) (-1000000001) 0 (by decide) (by decide)) ⟨Nat.le_of_ble_eq_true rfl, Nat.le_of_ble_eq_true rfl⟩ ⟨Nat.zero_le _, Nat.zero_le _⟩ hw 0 4 rfl rfl rfl rfl (Nat.le_of_ble_eq_true rfl) dX6_street_65 (fun H locs hw => ?_)
      have hw : zHw x A s.heap (zMW x a q (zU g 5 0 (g 5 0 + 1)) nu (zflat S)) H locs := hw
      exact zFG.iret hx hb hr hlocks hQ hw rfl dX6_street_68 (zPM.mk (t := zm_street S (g 5) r w v) (r := (-1000000001)) (S' := S) (fd' := zFd (g 5) 0) (by unfold zm_street; rw [if_neg (fun h => c7 h.2.1)]; rfl) (g 4) (congrArg (fun z => zMW x a q z nu _) (zG1 g 0)))
  · have c7 := zb_n0.mp c7
    refine lv_iload_n hx hb dX6_street_10 rfl (lv_at hl 3 rfl) ?_
    refine lv_i2l hx hb dX6_street_11 rfl ?_
    refine lv_lconst (v := 0) hx hb dX6_street_12 (by decide) ?_
    refine lv_iload_n hx hb dX6_street_13 rfl (lv_at hl 2 rfl) ?_
    refine lv_if_ne (tgt := 23) hx hb dX6_street_14 (by decide) (fun c14 => ?_) (fun c14 => ?_)
    · refine lv_lconst (v := 1) hx hb dX6_street_23 (by decide) ?_
      refine zcSwi (r := zb (0 ≤ v ∧ v ≤ 1)) hx hb hml hown hts hl.1 hK hE hA lkX6_48 (c_X6_inI x (zMW x a q g nu (zflat S)) v 0 1) ⟨Nat.le_of_ble_eq_true rfl, Nat.le_of_ble_eq_true rfl⟩ ⟨Nat.zero_le _, Nat.zero_le _⟩ hw rfl rfl (Nat.le_of_ble_eq_true rfl) dX6_street_24 (fun H locs hw => ?_)
      have hw : zHw x A s.heap (zMW x a q g nu (zflat S)) H locs := hw
      refine lv_if_eq (tgt := 34) hx hb dX6_street_27 (by decide) (fun c27 => ?_) (fun c27 => ?_)
      · have c27 := zb_0.mp c27
        refine lv_iconst (v := 0) hx hb dX6_street_34 (by decide) ?_
        refine lv_istore (lv' := [(4, .int 0), (0, .ref (a 0)), (1, .int r), (2, .int w), (3, .int v)]) hx hb dX6_street_35 hl (by decide) rfl (fun ls hl => ?_)
        refine lv_iload_n hx hb dX6_street_37 rfl (lv_at hl 2 rfl) ?_
        refine zcSwi (r := zb (0 ≤ r ∧ r < 6)) hx hb hml hown hts hl.1 hK hE hA lkX6_70 (c_X6_isStreet x (zMW x a q g nu (zflat S)) r) ⟨Nat.le_of_ble_eq_true rfl, Nat.le_of_ble_eq_true rfl⟩ ⟨Nat.zero_le _, Nat.zero_le _⟩ hw rfl rfl (Nat.le_of_ble_eq_true rfl) dX6_street_38 (fun H locs hw => ?_)
        have hw : zHw x A s.heap (zMW x a q g nu (zflat S)) H locs := hw
        refine lv_if_eq (tgt := 62) hx hb dX6_street_41 (by decide) (fun c41 => ?_) (fun c41 => ?_)
        · have c41 := zb_0.mp c41
          refine lv_aload_n hx hb dX6_street_62 rfl (lv_at hl 1 rfl) ?_
          refine lv_ldc (v := (-1000000001)) hx hb hown (hts _ ckX6_45) dX6_street_63 ?_
          refine zcVwi (r := (-1000000001)) hx hb hml hown hts hl.1 hK hE hA lkX6_64 (c_X6_finds x a q g nu (zflat S) (-1000000001) 0 (by decide) (by decide)) ⟨Nat.le_of_ble_eq_true rfl, Nat.le_of_ble_eq_true rfl⟩ ⟨Nat.zero_le _, Nat.zero_le _⟩ hw 0 4 rfl rfl rfl rfl (Nat.le_of_ble_eq_true rfl) dX6_street_65 (fun H locs hw => ?_)
          have hw : zHw x A s.heap (zMW x a q (zU g 5 0 (g 5 0 + 1)) nu (zflat S)) H locs := hw
          exact zFG.iret hx hb hr hlocks hQ hw rfl dX6_street_68 (zPM.mk (t := zm_street S (g 5) r w v) (r := (-1000000001)) (S' := S) (fd' := zFd (g 5) 0) (by unfold zm_street; rw [if_neg (fun h => c41 h.1)]; rfl) (g 4) (congrArg (fun z => zMW x a q z nu _) (zG1 g 0)))
        · have c41 := zb_n0.mp c41
          refine lv_iload hx hb dX6_street_44 (lv_at hl 0 rfl) ?_
          refine lv_if_eq (tgt := 62) hx hb dX6_street_46 (by decide) (fun c46 => ?_) (fun c46 => absurd (by decide) c46)
          refine lv_aload_n hx hb dX6_street_62 rfl (lv_at hl 1 rfl) ?_
          refine lv_ldc (v := (-1000000001)) hx hb hown (hts _ ckX6_45) dX6_street_63 ?_
          refine zcVwi (r := (-1000000001)) hx hb hml hown hts hl.1 hK hE hA lkX6_64 (c_X6_finds x a q g nu (zflat S) (-1000000001) 0 (by decide) (by decide)) ⟨Nat.le_of_ble_eq_true rfl, Nat.le_of_ble_eq_true rfl⟩ ⟨Nat.zero_le _, Nat.zero_le _⟩ hw 0 4 rfl rfl rfl rfl (Nat.le_of_ble_eq_true rfl) dX6_street_65 (fun H locs hw => ?_)
          have hw : zHw x A s.heap (zMW x a q (zU g 5 0 (g 5 0 + 1)) nu (zflat S)) H locs := hw
          exact zFG.iret hx hb hr hlocks hQ hw rfl dX6_street_68 (zPM.mk (t := zm_street S (g 5) r w v) (r := (-1000000001)) (S' := S) (fd' := zFd (g 5) 0) (by unfold zm_street; rw [if_neg (fun h => c27 (by have h2 := h.2.2; first | (rw [if_pos c14] at h2; exact h2) | (rw [if_neg c14] at h2; exact h2)))]; rfl) (g 4) (congrArg (fun z => zMW x a q z nu _) (zG1 g 0)))
      · have c27 := zb_n0.mp c27
        refine lv_iconst (v := 1) hx hb dX6_street_30 (by decide) ?_
        refine lv_goto (tgt := 35) hx hb dX6_street_31 (by decide) ?_
        refine lv_istore (lv' := [(4, .int 1), (0, .ref (a 0)), (1, .int r), (2, .int w), (3, .int v)]) hx hb dX6_street_35 hl (by decide) rfl (fun ls hl => ?_)
        refine lv_iload_n hx hb dX6_street_37 rfl (lv_at hl 2 rfl) ?_
        refine zcSwi (r := zb (0 ≤ r ∧ r < 6)) hx hb hml hown hts hl.1 hK hE hA lkX6_70 (c_X6_isStreet x (zMW x a q g nu (zflat S)) r) ⟨Nat.le_of_ble_eq_true rfl, Nat.le_of_ble_eq_true rfl⟩ ⟨Nat.zero_le _, Nat.zero_le _⟩ hw rfl rfl (Nat.le_of_ble_eq_true rfl) dX6_street_38 (fun H locs hw => ?_)
        have hw : zHw x A s.heap (zMW x a q g nu (zflat S)) H locs := hw
        refine lv_if_eq (tgt := 62) hx hb dX6_street_41 (by decide) (fun c41 => ?_) (fun c41 => ?_)
        · have c41 := zb_0.mp c41
          refine lv_aload_n hx hb dX6_street_62 rfl (lv_at hl 1 rfl) ?_
          refine lv_ldc (v := (-1000000001)) hx hb hown (hts _ ckX6_45) dX6_street_63 ?_
          refine zcVwi (r := (-1000000001)) hx hb hml hown hts hl.1 hK hE hA lkX6_64 (c_X6_finds x a q g nu (zflat S) (-1000000001) 0 (by decide) (by decide)) ⟨Nat.le_of_ble_eq_true rfl, Nat.le_of_ble_eq_true rfl⟩ ⟨Nat.zero_le _, Nat.zero_le _⟩ hw 0 4 rfl rfl rfl rfl (Nat.le_of_ble_eq_true rfl) dX6_street_65 (fun H locs hw => ?_)
          have hw : zHw x A s.heap (zMW x a q (zU g 5 0 (g 5 0 + 1)) nu (zflat S)) H locs := hw
          exact zFG.iret hx hb hr hlocks hQ hw rfl dX6_street_68 (zPM.mk (t := zm_street S (g 5) r w v) (r := (-1000000001)) (S' := S) (fd' := zFd (g 5) 0) (by unfold zm_street; rw [if_neg (fun h => c41 h.1)]; rfl) (g 4) (congrArg (fun z => zMW x a q z nu _) (zG1 g 0)))
        · have c41 := zb_n0.mp c41
          refine lv_iload hx hb dX6_street_44 (lv_at hl 0 rfl) ?_
          refine lv_if_eq (tgt := 62) hx hb dX6_street_46 (by decide) (fun c46 => absurd c46 (by decide)) (fun c46 => ?_)
          obtain ⟨i, hi, rfl⟩ := z6_nat c41
          obtain ⟨j, hj, rfl⟩ := zBw_nat (hi := 1) c7 (by decide) (by decide)
          refine lv_aload_n hx hb dX6_street_49 rfl (lv_at hl 1 rfl) ?_
          refine lv_iload_n hx hb dX6_street_50 rfl (lv_at hl 2 rfl) ?_
          refine lv_iload_n hx hb dX6_street_51 rfl (lv_at hl 3 rfl) ?_
          refine zcSwi (r := nI (7 + 2 * i + j)) hx hb hml hown hts hl.1 hK hE hA lkX6_41 (c_X6_roadOf x (zMW x a q g nu (zflat S)) i j) ⟨Nat.le_of_ble_eq_true rfl, Nat.le_of_ble_eq_true rfl⟩ ⟨Nat.zero_le _, Nat.zero_le _⟩ hw rfl rfl (Nat.le_of_ble_eq_true rfl) dX6_street_52 (fun H locs hw => ?_)
          have hw : zHw x A s.heap (zMW x a q g nu (zflat S)) H locs := hw
          refine lv_iload_n hx hb dX6_street_55 rfl (lv_at hl 4 rfl) ?_
          refine zcVwi (r := zflat S (7 + 2 * i + j)) hx hb hml hown hts hl.1 hK hE hA lkX6_61 (c_X6_becomes x a q g nu (zflat S) (7 + 2 * i + j) v (by omega)) ⟨Nat.le_of_ble_eq_true rfl, Nat.le_of_ble_eq_true rfl⟩ ⟨Nat.zero_le _, Nat.zero_le _⟩ hw 0 4 rfl rfl rfl rfl (Nat.le_of_ble_eq_true rfl) dX6_street_56 (fun H locs hw => ?_)
          have hw : zHw x A s.heap (zMW x a q g nu (zflat (zU S (1 + j) i v))) H locs := (by rw [zflat_uro S v hi (show j < 2 by omega)] at hw; exact hw)
          refine W.eq (g2 := F0 m 59 ls [.int (S (1 + j) i)]) (by rw [zflat_ro S hi (show j < 2 by omega)]) ?_
          refine lv_goto (tgt := 68) hx hb dX6_street_59 (by decide) ?_
          exact zFG.iret hx hb hr hlocks hQ hw rfl dX6_street_68 (zPM.mk (t := zm_street S (g 5) (nI i) (nI j) v) (r := S (1 + j) i) (S' := zU S (1 + j) i v) (fd' := g 5) (by unfold zm_street; rw [if_pos ⟨c41, c7, by first | (rw [if_pos c14]; exact c27) | (rw [if_neg c14]; exact c27)⟩, zc_nI (show j < 2147483648 by omega), zc_nI (show i < 2147483648 by omega)]) (g 4) (congrArg (fun z => zMW x a q z nu _) (zG0 g)))
    · refine lv_ldc2 (v := 99) hx hb hown (hts _ ckX6_68) dX6_street_17 ?_
      refine lv_goto (tgt := 24) hx hb dX6_street_20 (by decide) ?_
      refine zcSwi (r := zb (0 ≤ v ∧ v ≤ 99)) hx hb hml hown hts hl.1 hK hE hA lkX6_48 (c_X6_inI x (zMW x a q g nu (zflat S)) v 0 99) ⟨Nat.le_of_ble_eq_true rfl, Nat.le_of_ble_eq_true rfl⟩ ⟨Nat.zero_le _, Nat.zero_le _⟩ hw rfl rfl (Nat.le_of_ble_eq_true rfl) dX6_street_24 (fun H locs hw => ?_)
      have hw : zHw x A s.heap (zMW x a q g nu (zflat S)) H locs := hw
      refine lv_if_eq (tgt := 34) hx hb dX6_street_27 (by decide) (fun c27 => ?_) (fun c27 => ?_)
      · have c27 := zb_0.mp c27
        refine lv_iconst (v := 0) hx hb dX6_street_34 (by decide) ?_
        refine lv_istore (lv' := [(4, .int 0), (0, .ref (a 0)), (1, .int r), (2, .int w), (3, .int v)]) hx hb dX6_street_35 hl (by decide) rfl (fun ls hl => ?_)
        refine lv_iload_n hx hb dX6_street_37 rfl (lv_at hl 2 rfl) ?_
        refine zcSwi (r := zb (0 ≤ r ∧ r < 6)) hx hb hml hown hts hl.1 hK hE hA lkX6_70 (c_X6_isStreet x (zMW x a q g nu (zflat S)) r) ⟨Nat.le_of_ble_eq_true rfl, Nat.le_of_ble_eq_true rfl⟩ ⟨Nat.zero_le _, Nat.zero_le _⟩ hw rfl rfl (Nat.le_of_ble_eq_true rfl) dX6_street_38 (fun H locs hw => ?_)
        have hw : zHw x A s.heap (zMW x a q g nu (zflat S)) H locs := hw
        refine lv_if_eq (tgt := 62) hx hb dX6_street_41 (by decide) (fun c41 => ?_) (fun c41 => ?_)
        · have c41 := zb_0.mp c41
          refine lv_aload_n hx hb dX6_street_62 rfl (lv_at hl 1 rfl) ?_
          refine lv_ldc (v := (-1000000001)) hx hb hown (hts _ ckX6_45) dX6_street_63 ?_
          refine zcVwi (r := (-1000000001)) hx hb hml hown hts hl.1 hK hE hA lkX6_64 (c_X6_finds x a q g nu (zflat S) (-1000000001) 0 (by decide) (by decide)) ⟨Nat.le_of_ble_eq_true rfl, Nat.le_of_ble_eq_true rfl⟩ ⟨Nat.zero_le _, Nat.zero_le _⟩ hw 0 4 rfl rfl rfl rfl (Nat.le_of_ble_eq_true rfl) dX6_street_65 (fun H locs hw => ?_)
          have hw : zHw x A s.heap (zMW x a q (zU g 5 0 (g 5 0 + 1)) nu (zflat S)) H locs := hw
          exact zFG.iret hx hb hr hlocks hQ hw rfl dX6_street_68 (zPM.mk (t := zm_street S (g 5) r w v) (r := (-1000000001)) (S' := S) (fd' := zFd (g 5) 0) (by unfold zm_street; rw [if_neg (fun h => c41 h.1)]; rfl) (g 4) (congrArg (fun z => zMW x a q z nu _) (zG1 g 0)))
        · have c41 := zb_n0.mp c41
          refine lv_iload hx hb dX6_street_44 (lv_at hl 0 rfl) ?_
          refine lv_if_eq (tgt := 62) hx hb dX6_street_46 (by decide) (fun c46 => ?_) (fun c46 => absurd (by decide) c46)
          refine lv_aload_n hx hb dX6_street_62 rfl (lv_at hl 1 rfl) ?_
          refine lv_ldc (v := (-1000000001)) hx hb hown (hts _ ckX6_45) dX6_street_63 ?_
          refine zcVwi (r := (-1000000001)) hx hb hml hown hts hl.1 hK hE hA lkX6_64 (c_X6_finds x a q g nu (zflat S) (-1000000001) 0 (by decide) (by decide)) ⟨Nat.le_of_ble_eq_true rfl, Nat.le_of_ble_eq_true rfl⟩ ⟨Nat.zero_le _, Nat.zero_le _⟩ hw 0 4 rfl rfl rfl rfl (Nat.le_of_ble_eq_true rfl) dX6_street_65 (fun H locs hw => ?_)
          have hw : zHw x A s.heap (zMW x a q (zU g 5 0 (g 5 0 + 1)) nu (zflat S)) H locs := hw
          exact zFG.iret hx hb hr hlocks hQ hw rfl dX6_street_68 (zPM.mk (t := zm_street S (g 5) r w v) (r := (-1000000001)) (S' := S) (fd' := zFd (g 5) 0) (by unfold zm_street; rw [if_neg (fun h => c27 (by have h2 := h.2.2; first | (rw [if_pos c14] at h2; exact h2) | (rw [if_neg c14] at h2; exact h2)))]; rfl) (g 4) (congrArg (fun z => zMW x a q z nu _) (zG1 g 0)))
      · have c27 := zb_n0.mp c27
        refine lv_iconst (v := 1) hx hb dX6_street_30 (by decide) ?_
        refine lv_goto (tgt := 35) hx hb dX6_street_31 (by decide) ?_
        refine lv_istore (lv' := [(4, .int 1), (0, .ref (a 0)), (1, .int r), (2, .int w), (3, .int v)]) hx hb dX6_street_35 hl (by decide) rfl (fun ls hl => ?_)
        refine lv_iload_n hx hb dX6_street_37 rfl (lv_at hl 2 rfl) ?_
        refine zcSwi (r := zb (0 ≤ r ∧ r < 6)) hx hb hml hown hts hl.1 hK hE hA lkX6_70 (c_X6_isStreet x (zMW x a q g nu (zflat S)) r) ⟨Nat.le_of_ble_eq_true rfl, Nat.le_of_ble_eq_true rfl⟩ ⟨Nat.zero_le _, Nat.zero_le _⟩ hw rfl rfl (Nat.le_of_ble_eq_true rfl) dX6_street_38 (fun H locs hw => ?_)
        have hw : zHw x A s.heap (zMW x a q g nu (zflat S)) H locs := hw
        refine lv_if_eq (tgt := 62) hx hb dX6_street_41 (by decide) (fun c41 => ?_) (fun c41 => ?_)
        · have c41 := zb_0.mp c41
          refine lv_aload_n hx hb dX6_street_62 rfl (lv_at hl 1 rfl) ?_
          refine lv_ldc (v := (-1000000001)) hx hb hown (hts _ ckX6_45) dX6_street_63 ?_
          refine zcVwi (r := (-1000000001)) hx hb hml hown hts hl.1 hK hE hA lkX6_64 (c_X6_finds x a q g nu (zflat S) (-1000000001) 0 (by decide) (by decide)) ⟨Nat.le_of_ble_eq_true rfl, Nat.le_of_ble_eq_true rfl⟩ ⟨Nat.zero_le _, Nat.zero_le _⟩ hw 0 4 rfl rfl rfl rfl (Nat.le_of_ble_eq_true rfl) dX6_street_65 (fun H locs hw => ?_)
          have hw : zHw x A s.heap (zMW x a q (zU g 5 0 (g 5 0 + 1)) nu (zflat S)) H locs := hw
          exact zFG.iret hx hb hr hlocks hQ hw rfl dX6_street_68 (zPM.mk (t := zm_street S (g 5) r w v) (r := (-1000000001)) (S' := S) (fd' := zFd (g 5) 0) (by unfold zm_street; rw [if_neg (fun h => c41 h.1)]; rfl) (g 4) (congrArg (fun z => zMW x a q z nu _) (zG1 g 0)))
        · have c41 := zb_n0.mp c41
          refine lv_iload hx hb dX6_street_44 (lv_at hl 0 rfl) ?_
          refine lv_if_eq (tgt := 62) hx hb dX6_street_46 (by decide) (fun c46 => absurd c46 (by decide)) (fun c46 => ?_)
          obtain ⟨i, hi, rfl⟩ := z6_nat c41
          obtain ⟨j, hj, rfl⟩ := zBw_nat (hi := 1) c7 (by decide) (by decide)
          refine lv_aload_n hx hb dX6_street_49 rfl (lv_at hl 1 rfl) ?_
          refine lv_iload_n hx hb dX6_street_50 rfl (lv_at hl 2 rfl) ?_
          refine lv_iload_n hx hb dX6_street_51 rfl (lv_at hl 3 rfl) ?_
          refine zcSwi (r := nI (7 + 2 * i + j)) hx hb hml hown hts hl.1 hK hE hA lkX6_41 (c_X6_roadOf x (zMW x a q g nu (zflat S)) i j) ⟨Nat.le_of_ble_eq_true rfl, Nat.le_of_ble_eq_true rfl⟩ ⟨Nat.zero_le _, Nat.zero_le _⟩ hw rfl rfl (Nat.le_of_ble_eq_true rfl) dX6_street_52 (fun H locs hw => ?_)
          have hw : zHw x A s.heap (zMW x a q g nu (zflat S)) H locs := hw
          refine lv_iload_n hx hb dX6_street_55 rfl (lv_at hl 4 rfl) ?_
          refine zcVwi (r := zflat S (7 + 2 * i + j)) hx hb hml hown hts hl.1 hK hE hA lkX6_61 (c_X6_becomes x a q g nu (zflat S) (7 + 2 * i + j) v (by omega)) ⟨Nat.le_of_ble_eq_true rfl, Nat.le_of_ble_eq_true rfl⟩ ⟨Nat.zero_le _, Nat.zero_le _⟩ hw 0 4 rfl rfl rfl rfl (Nat.le_of_ble_eq_true rfl) dX6_street_56 (fun H locs hw => ?_)
          have hw : zHw x A s.heap (zMW x a q g nu (zflat (zU S (1 + j) i v))) H locs := (by rw [zflat_uro S v hi (show j < 2 by omega)] at hw; exact hw)
          refine W.eq (g2 := F0 m 59 ls [.int (S (1 + j) i)]) (by rw [zflat_ro S hi (show j < 2 by omega)]) ?_
          refine lv_goto (tgt := 68) hx hb dX6_street_59 (by decide) ?_
          exact zFG.iret hx hb hr hlocks hQ hw rfl dX6_street_68 (zPM.mk (t := zm_street S (g 5) (nI i) (nI j) v) (r := S (1 + j) i) (S' := zU S (1 + j) i v) (fd' := g 5) (by unfold zm_street; rw [if_pos ⟨c41, c7, by first | (rw [if_pos c14]; exact c27) | (rw [if_neg c14]; exact c27)⟩, zc_nI (show j < 2147483648 by omega), zc_nI (show i < 2147483648 by omega)]) (g 4) (congrArg (fun z => zMW x a q z nu _) (zG0 g)))

set_option maxHeartbeats 4000000 in
set_option maxRecDepth 100000 in
theorem c_X6_streetOf (x : zX) (a : Nat → Nat) (q : Nat → Int32) (g : zT) (nu : Nat → Nat → Int64) (S : zT) (r w : Int32) (hI : zInv S) : zFG x mX6_streetOf 3 [.ref (a 0), .int r, .int w] (zMW x a q g nu (zflat S)) (zPM x a q g nu (zm_streetOf S (g 5) r w)) := by
  refine zFG.start RX6 cX6_streetOf 4 (some .int) rfl rfl (by decide +kernel) (Nat.le_of_ble_eq_true rfl) ?_
  intro p e s m ar below meth c ls A Q hx hb hr hml hown hts hlocks hK hE hA hQ hl hw
  have hl : lv_has ls 4 [(0, .ref (a 0)), (1, .int r), (2, .int w)] := hl
  have hw : zHw x A s.heap (zMW x a q g nu (zflat S)) s.heap [] := hw
  refine lv_iload_n hx hb dX6_streetOf_0 rfl (lv_at hl 1 rfl) ?_
  refine zcSwi (r := zb (0 ≤ r ∧ r < 6)) hx hb hml hown hts hl.1 hK hE hA lkX6_70 (c_X6_isStreet x (zMW x a q g nu (zflat S)) r) ⟨Nat.le_of_ble_eq_true rfl, Nat.le_of_ble_eq_true rfl⟩ ⟨Nat.zero_le _, Nat.zero_le _⟩ hw rfl rfl (Nat.le_of_ble_eq_true rfl) dX6_streetOf_1 (fun H locs hw => ?_)
  have hw : zHw x A s.heap (zMW x a q g nu (zflat S)) H locs := hw
  refine lv_if_eq (tgt := 19) hx hb dX6_streetOf_4 (by decide) (fun c4 => ?_) (fun c4 => ?_)
  · have c4 := zb_0.mp c4
    refine lv_aload_n hx hb dX6_streetOf_19 rfl (lv_at hl 0 rfl) ?_
    refine lv_ldc (v := (-1000000001)) hx hb hown (hts _ ckX6_45) dX6_streetOf_20 ?_
    refine zcVwi (r := (-1000000001)) hx hb hml hown hts hl.1 hK hE hA lkX6_64 (c_X6_finds x a q g nu (zflat S) (-1000000001) 0 (by decide) (by decide)) ⟨Nat.le_of_ble_eq_true rfl, Nat.le_of_ble_eq_true rfl⟩ ⟨Nat.zero_le _, Nat.zero_le _⟩ hw 0 4 rfl rfl rfl rfl (Nat.le_of_ble_eq_true rfl) dX6_streetOf_22 (fun H locs hw => ?_)
    have hw : zHw x A s.heap (zMW x a q (zU g 5 0 (g 5 0 + 1)) nu (zflat S)) H locs := hw
    exact zFG.iret hx hb hr hlocks hQ hw rfl dX6_streetOf_25 (zPM.mk (t := zm_streetOf S (g 5) r w) (r := (-1000000001)) (S' := S) (fd' := zFd (g 5) 0) (by unfold zm_streetOf; first | (rw [if_neg (fun h => c16 h.2)]; rfl) | (rw [if_neg (fun h => c4 h.1)]; rfl)) (g 4) (congrArg (fun z => zMW x a q z nu _) (zG1 g 0)))
  · have c4 := zb_n0.mp c4
    refine lv_iload_n hx hb dX6_streetOf_7 rfl (lv_at hl 2 rfl) ?_
    refine lv_i2l hx hb dX6_streetOf_8 rfl ?_
    refine lv_lconst (v := 0) hx hb dX6_streetOf_9 (by decide) ?_
    refine lv_ldc2 (v := 3) hx hb hown (hts _ ckX6_55) dX6_streetOf_10 ?_
    refine zcSwi (r := zb (0 ≤ w ∧ w ≤ 3)) hx hb hml hown hts hl.1 hK hE hA lkX6_48 (c_X6_inI x (zMW x a q g nu (zflat S)) w 0 3) ⟨Nat.le_of_ble_eq_true rfl, Nat.le_of_ble_eq_true rfl⟩ ⟨Nat.zero_le _, Nat.zero_le _⟩ hw rfl rfl (Nat.le_of_ble_eq_true rfl) dX6_streetOf_13 (fun H locs hw => ?_)
    have hw : zHw x A s.heap (zMW x a q g nu (zflat S)) H locs := hw
    refine lv_if_ne (tgt := 26) hx hb dX6_streetOf_16 (by decide) (fun c16 => ?_) (fun c16 => ?_)
    · have c16 := zb_n0.mp c16
      obtain ⟨i, hi, rfl⟩ := z6_nat c4
      obtain ⟨j, hj, rfl⟩ := zBw_nat (hi := 3) c16 (by decide) (by decide)
      refine lv_aload_n hx hb dX6_streetOf_26 rfl (lv_at hl 0 rfl) ?_
      refine lv_iconst (v := 1) hx hb dX6_streetOf_27 (by decide) ?_
      refine lv_iload_n hx hb dX6_streetOf_28 rfl (lv_at hl 1 rfl) ?_
      refine zcVwi (r := zBi (fun h => decide (S 4 h = (nI i))) (zN S)) hx hb hml hown hts hl.1 hK hE hA lkX6_77 (c_X6_thoseAs x a q g nu S 1 (nI i) hI (by decide)) ⟨Nat.le_of_ble_eq_true rfl, Nat.le_of_ble_eq_true rfl⟩ ⟨Nat.zero_le _, Nat.zero_le _⟩ hw 0 4 rfl rfl rfl rfl (Nat.le_of_ble_eq_true rfl) dX6_streetOf_29 (fun H locs hw => ?_)
      have hw : zHw x A s.heap (zMW x a q g nu (zflat S)) H locs := hw
      refine lv_istore_n (lv' := [(3, .int (zBi (fun h => decide (S 4 h = (nI i))) (zN S))), (0, .ref (a 0)), (1, .int (nI i)), (2, .int (nI j))]) hx hb dX6_streetOf_32 rfl hl (by decide) rfl (fun ls hl => ?_)
      refine lv_iload_n hx hb dX6_streetOf_33 rfl (lv_at hl 3 rfl) ?_
      refine lv_iconst (v := 1) hx hb dX6_streetOf_34 (by decide) ?_
      refine lv_icmp_gt (tgt := 51) hx hb dX6_streetOf_35 (by decide) (fun c35 => ?_) (fun c35 => ?_)
      · refine lv_iload_n hx hb dX6_streetOf_51 rfl (lv_at hl 3 rfl) ?_
        refine lv_iconst (v := 2) hx hb dX6_streetOf_52 (by decide) ?_
        refine lv_icmp_ne (tgt := 60) hx hb dX6_streetOf_53 (by decide) (fun c53 => ?_) (fun c53 => ?_)
        · refine lv_iload_n hx hb dX6_streetOf_60 rfl (lv_at hl 0 rfl) ?_
          refine lv_aload_n hx hb dX6_streetOf_61 rfl (lv_at hl 1 rfl) ?_
          refine lv_iconst (v := 3) hx hb dX6_streetOf_62 (by decide) ?_
          refine lv_iconst (v := 0) hx hb dX6_streetOf_63 (by decide) ?_
          refine zcVwi (r := zBi (fun h => decide (S 6 h = 0)) (zN S)) hx hb hml hown hts hl.1 hK hE hA lkX6_77 (c_X6_thoseAs x a q g nu S 3 0 hI (by decide)) ⟨Nat.le_of_ble_eq_true rfl, Nat.le_of_ble_eq_true rfl⟩ ⟨Nat.zero_le _, Nat.zero_le _⟩ hw 0 4 rfl rfl rfl rfl (Nat.le_of_ble_eq_true rfl) dX6_streetOf_64 (fun H locs hw => ?_)
          have hw : zHw x A s.heap (zMW x a q g nu (zflat S)) H locs := hw
          refine lv_iand hx hb dX6_streetOf_67 ?_
          exact zFG.iret hx hb hr hlocks hQ hw rfl dX6_streetOf_68 (zPM.mk (t := zm_streetOf S (g 5) (nI i) (nI j)) (r := (zBi (fun h => decide (S 4 h = (nI i))) (zN S)) &&& (zBi (fun h => decide (S 6 h = 0)) (zN S))) (S' := S) (fd' := g 5) (by unfold zm_streetOf; rw [if_pos ⟨c4, c16⟩]; first | (rw [if_pos (Int32.not_lt.mp c35), zc_nI (show j < 2147483648 by omega), zc_nI (show i < 2147483648 by omega)]) | (rw [if_neg (Int32.not_le.mpr c35), if_pos c53]) | (rw [if_neg (Int32.not_le.mpr c35), if_neg c53]; rfl)) (g 4) (congrArg (fun z => zMW x a q z nu _) (zG0 g)))
        · refine lv_iload_n hx hb dX6_streetOf_56 rfl (lv_at hl 0 rfl) ?_
          refine lv_goto (tgt := 68) hx hb dX6_streetOf_57 (by decide) ?_
          exact zFG.iret hx hb hr hlocks hQ hw rfl dX6_streetOf_68 (zPM.mk (t := zm_streetOf S (g 5) (nI i) (nI j)) (r := zBi (fun h => decide (S 4 h = (nI i))) (zN S)) (S' := S) (fd' := g 5) (by unfold zm_streetOf; rw [if_pos ⟨c4, c16⟩]; first | (rw [if_pos (Int32.not_lt.mp c35), zc_nI (show j < 2147483648 by omega), zc_nI (show i < 2147483648 by omega)]) | (rw [if_neg (Int32.not_le.mpr c35), if_pos c53]) | (rw [if_neg (Int32.not_le.mpr c35), if_neg c53]; rfl)) (g 4) (congrArg (fun z => zMW x a q z nu _) (zG0 g)))
      · have hj1 : j ≤ 1 := (nI_leI (b := 1) (by omega) (by decide)).mp (Int32.not_lt.mp c35)
        refine lv_aload_n hx hb dX6_streetOf_38 rfl (lv_at hl 1 rfl) ?_
        refine gfX6_7 hx hb hown hts hK hw 0 rfl rfl dX6_streetOf_39 ?_
        refine lv_iload_n hx hb dX6_streetOf_42 rfl (lv_at hl 2 rfl) ?_
        refine lv_iload_n hx hb dX6_streetOf_43 rfl (lv_at hl 3 rfl) ?_
        refine zcSwi (r := nI (7 + 2 * i + j)) hx hb hml hown hts hl.1 hK hE hA lkX6_41 (c_X6_roadOf x (zMW x a q g nu (zflat S)) i j) ⟨Nat.le_of_ble_eq_true rfl, Nat.le_of_ble_eq_true rfl⟩ ⟨Nat.zero_le _, Nat.zero_le _⟩ hw rfl rfl (Nat.le_of_ble_eq_true rfl) dX6_streetOf_44 (fun H locs hw => ?_)
        have hw : zHw x A s.heap (zMW x a q g nu (zflat S)) H locs := hw
        refine zial2 (v := S (1 + j) i) hx hb hK hw 1 0 (7 + 2 * i + j) rfl rfl rfl (by omega) (by decide) dX6_streetOf_47 (zflat_ro S (by omega) (by omega)) ?_
        refine lv_goto (tgt := 68) hx hb dX6_streetOf_48 (by decide) ?_
        exact zFG.iret hx hb hr hlocks hQ hw rfl dX6_streetOf_68 (zPM.mk (t := zm_streetOf S (g 5) (nI i) (nI j)) (r := S (1 + j) i) (S' := S) (fd' := g 5) (by unfold zm_streetOf; rw [if_pos ⟨c4, c16⟩]; first | (rw [if_pos (Int32.not_lt.mp c35), zc_nI (show j < 2147483648 by omega), zc_nI (show i < 2147483648 by omega)]) | (rw [if_neg (Int32.not_le.mpr c35), if_pos c53]) | (rw [if_neg (Int32.not_le.mpr c35), if_neg c53]; rfl)) (g 4) (congrArg (fun z => zMW x a q z nu _) (zG0 g)))
    · have c16 := zb_0.mp c16
      refine lv_aload_n hx hb dX6_streetOf_19 rfl (lv_at hl 0 rfl) ?_
      refine lv_ldc (v := (-1000000001)) hx hb hown (hts _ ckX6_45) dX6_streetOf_20 ?_
      refine zcVwi (r := (-1000000001)) hx hb hml hown hts hl.1 hK hE hA lkX6_64 (c_X6_finds x a q g nu (zflat S) (-1000000001) 0 (by decide) (by decide)) ⟨Nat.le_of_ble_eq_true rfl, Nat.le_of_ble_eq_true rfl⟩ ⟨Nat.zero_le _, Nat.zero_le _⟩ hw 0 4 rfl rfl rfl rfl (Nat.le_of_ble_eq_true rfl) dX6_streetOf_22 (fun H locs hw => ?_)
      have hw : zHw x A s.heap (zMW x a q (zU g 5 0 (g 5 0 + 1)) nu (zflat S)) H locs := hw
      exact zFG.iret hx hb hr hlocks hQ hw rfl dX6_streetOf_25 (zPM.mk (t := zm_streetOf S (g 5) r w) (r := (-1000000001)) (S' := S) (fd' := zFd (g 5) 0) (by unfold zm_streetOf; first | (rw [if_neg (fun h => c16 h.2)]; rfl) | (rw [if_neg (fun h => c4 h.1)]; rfl)) (g 4) (congrArg (fun z => zMW x a q z nu _) (zG1 g 0)))

set_option maxHeartbeats 4000000 in
set_option maxRecDepth 100000 in
theorem c_X6_hole (x : zX) (a : Nat → Nat) (q : Nat → Int32) (g : zT) (nu : Nat → Nat → Int64) (S : zT) (k r : Int32) (hI : zInv S) : zFG x mX6_hole 2 [.ref (a 0), .int k, .int r] (zMW x a q g nu (zflat S)) (zPM x a q g nu (zm_hole S (g 5) k r)) := by
  refine zFG.start RX6 cX6_hole 3 (some .int) rfl rfl (by decide +kernel) (Nat.le_of_ble_eq_true rfl) ?_
  intro p e s m ar below meth c ls A Q hx hb hr hml hown hts hlocks hK hE hA hQ hl hw
  have hl : lv_has ls 3 [(0, .ref (a 0)), (1, .int k), (2, .int r)] := hl
  have hw : zHw x A s.heap (zMW x a q g nu (zflat S)) s.heap [] := hw
  refine lv_iload_n hx hb dX6_hole_0 rfl (lv_at hl 1 rfl) ?_
  refine zcSwi (r := zb (0 ≤ k ∧ k < 6)) hx hb hml hown hts hl.1 hK hE hA lkX6_80 (c_X6_isKind x (zMW x a q g nu (zflat S)) k) ⟨Nat.le_of_ble_eq_true rfl, Nat.le_of_ble_eq_true rfl⟩ ⟨Nat.zero_le _, Nat.zero_le _⟩ hw rfl rfl (Nat.le_of_ble_eq_true rfl) dX6_hole_1 (fun H locs hw => ?_)
  have hw : zHw x A s.heap (zMW x a q g nu (zflat S)) H locs := hw
  refine lv_if_eq (tgt := 14) hx hb dX6_hole_4 (by decide) (fun c4 => ?_) (fun c4 => ?_)
  · have c4 := zb_0.mp c4
    refine lv_aload_n hx hb dX6_hole_14 rfl (lv_at hl 0 rfl) ?_
    refine lv_ldc (v := (-1000000001)) hx hb hown (hts _ ckX6_45) dX6_hole_15 ?_
    refine zcVwi (r := (-1000000001)) hx hb hml hown hts hl.1 hK hE hA lkX6_64 (c_X6_finds x a q g nu (zflat S) (-1000000001) 0 (by decide) (by decide)) ⟨Nat.le_of_ble_eq_true rfl, Nat.le_of_ble_eq_true rfl⟩ ⟨Nat.zero_le _, Nat.zero_le _⟩ hw 0 4 rfl rfl rfl rfl (Nat.le_of_ble_eq_true rfl) dX6_hole_17 (fun H locs hw => ?_)
    have hw : zHw x A s.heap (zMW x a q (zU g 5 0 (g 5 0 + 1)) nu (zflat S)) H locs := hw
    exact zFG.iret hx hb hr hlocks hQ hw rfl dX6_hole_20 (zPM.mk (t := zm_hole S (g 5) k r) (r := (-1000000001)) (S' := S) (fd' := zFd (g 5) 0) (by unfold zm_hole; first | (rw [if_pos ⟨c4, c11⟩, if_pos c29]; done) | (rw [if_pos ⟨c4, c11⟩, if_neg c29]; done) | (rw [if_neg (fun h => c11 h.2)]; rfl) | (rw [if_neg (fun h => c4 h.1)]; rfl)) (g 4) (congrArg (fun z => zMW x a q z nu _) (zG1 g 0)))
  · have c4 := zb_n0.mp c4
    refine lv_iload_n hx hb dX6_hole_7 rfl (lv_at hl 2 rfl) ?_
    refine zcSwi (r := zb (0 ≤ r ∧ r < 6)) hx hb hml hown hts hl.1 hK hE hA lkX6_70 (c_X6_isStreet x (zMW x a q g nu (zflat S)) r) ⟨Nat.le_of_ble_eq_true rfl, Nat.le_of_ble_eq_true rfl⟩ ⟨Nat.zero_le _, Nat.zero_le _⟩ hw rfl rfl (Nat.le_of_ble_eq_true rfl) dX6_hole_8 (fun H locs hw => ?_)
    have hw : zHw x A s.heap (zMW x a q g nu (zflat S)) H locs := hw
    refine lv_if_ne (tgt := 21) hx hb dX6_hole_11 (by decide) (fun c11 => ?_) (fun c11 => ?_)
    · have c11 := zb_n0.mp c11
      refine lv_aload_n hx hb dX6_hole_21 rfl (lv_at hl 0 rfl) ?_
      refine gfX6_7 hx hb hown hts hK hw 0 rfl rfl dX6_hole_22 ?_
      refine lv_iconst (v := 0) hx hb dX6_hole_25 (by decide) ?_
      refine zial2 (v := S 0 0) hx hb hK hw 1 0 0 rfl rfl rfl (by decide) (by decide) dX6_hole_26 rfl ?_
      refine lv_bipush (v := 8) hx hb dX6_hole_27 (by decide) ?_
      refine lv_icmp_ne (tgt := 41) hx hb dX6_hole_29 (by decide) (fun c29 => ?_) (fun c29 => ?_)
      · have hz0 := zN_0 hI
        have hz8 : zN S < 8 := by
          have h8 := zN_le hI
          rcases Nat.lt_or_ge (zN S) 8 with q | q
          · exact q
          · exact absurd (by rw [hz0, show zN S = 8 from by omega]; rfl) c29
        refine lv_aload_n hx hb dX6_hole_41 rfl (lv_at hl 0 rfl) ?_
        refine lv_iload_n hx hb dX6_hole_42 rfl (lv_at hl 1 rfl) ?_
        refine lv_iload_n hx hb dX6_hole_43 rfl (lv_at hl 2 rfl) ?_
        refine zcVwi (r := nI (zN S)) hx hb hml hown hts hl.1 hK hE hA lkX6_84 (c_X6_adds x a q g nu S k r hz0 hz8) ⟨Nat.le_of_ble_eq_true rfl, Nat.le_of_ble_eq_true rfl⟩ ⟨Nat.zero_le _, Nat.zero_le _⟩ hw 0 4 rfl rfl rfl rfl (Nat.le_of_ble_eq_true rfl) dX6_hole_44 (fun H locs hw => ?_)
        have hw : zHw x A s.heap (zMW x a q g nu (zflat (zAd S k r))) H locs := hw
        exact zFG.iret hx hb hr hlocks hQ hw rfl dX6_hole_47 (zPM.mk (t := zm_hole S (g 5) k r) (r := nI (zN S)) (S' := zAd S k r) (fd' := g 5) (by unfold zm_hole; first | (rw [if_pos ⟨c4, c11⟩, if_pos c29]; done) | (rw [if_pos ⟨c4, c11⟩, if_neg c29]; done) | (rw [if_neg (fun h => c11 h.2)]; rfl) | (rw [if_neg (fun h => c4 h.1)]; rfl)) (g 4) (congrArg (fun z => zMW x a q z nu _) (zG0 g)))
      · refine lv_aload_n hx hb dX6_hole_32 rfl (lv_at hl 0 rfl) ?_
        refine lv_ldc (v := (-1000000002)) hx hb hown (hts _ ckX6_83) dX6_hole_33 ?_
        refine zcVwi (r := (-1000000002)) hx hb hml hown hts hl.1 hK hE hA lkX6_64 (c_X6_finds x a q g nu (zflat S) (-1000000002) 1 (by decide) (by decide)) ⟨Nat.le_of_ble_eq_true rfl, Nat.le_of_ble_eq_true rfl⟩ ⟨Nat.zero_le _, Nat.zero_le _⟩ hw 0 4 rfl rfl rfl rfl (Nat.le_of_ble_eq_true rfl) dX6_hole_35 (fun H locs hw => ?_)
        have hw : zHw x A s.heap (zMW x a q (zU g 5 1 (g 5 1 + 1)) nu (zflat S)) H locs := hw
        refine lv_goto (tgt := 47) hx hb dX6_hole_38 (by decide) ?_
        exact zFG.iret hx hb hr hlocks hQ hw rfl dX6_hole_47 (zPM.mk (t := zm_hole S (g 5) k r) (r := (-1000000002)) (S' := S) (fd' := zFd (g 5) 1) (by unfold zm_hole; first | (rw [if_pos ⟨c4, c11⟩, if_pos c29]; done) | (rw [if_pos ⟨c4, c11⟩, if_neg c29]; done) | (rw [if_neg (fun h => c11 h.2)]; rfl) | (rw [if_neg (fun h => c4 h.1)]; rfl)) (g 4) (congrArg (fun z => zMW x a q z nu _) (zG1 g 1)))
    · have c11 := zb_0.mp c11
      refine lv_aload_n hx hb dX6_hole_14 rfl (lv_at hl 0 rfl) ?_
      refine lv_ldc (v := (-1000000001)) hx hb hown (hts _ ckX6_45) dX6_hole_15 ?_
      refine zcVwi (r := (-1000000001)) hx hb hml hown hts hl.1 hK hE hA lkX6_64 (c_X6_finds x a q g nu (zflat S) (-1000000001) 0 (by decide) (by decide)) ⟨Nat.le_of_ble_eq_true rfl, Nat.le_of_ble_eq_true rfl⟩ ⟨Nat.zero_le _, Nat.zero_le _⟩ hw 0 4 rfl rfl rfl rfl (Nat.le_of_ble_eq_true rfl) dX6_hole_17 (fun H locs hw => ?_)
      have hw : zHw x A s.heap (zMW x a q (zU g 5 0 (g 5 0 + 1)) nu (zflat S)) H locs := hw
      exact zFG.iret hx hb hr hlocks hQ hw rfl dX6_hole_20 (zPM.mk (t := zm_hole S (g 5) k r) (r := (-1000000001)) (S' := S) (fd' := zFd (g 5) 0) (by unfold zm_hole; first | (rw [if_pos ⟨c4, c11⟩, if_pos c29]; done) | (rw [if_pos ⟨c4, c11⟩, if_neg c29]; done) | (rw [if_neg (fun h => c11 h.2)]; rfl) | (rw [if_neg (fun h => c4 h.1)]; rfl)) (g 4) (congrArg (fun z => zMW x a q z nu _) (zG1 g 0)))

set_option maxHeartbeats 4000000 in
set_option maxRecDepth 100000 in
theorem c_X6_isPart (x : zX) (w : va_W) (k v : Int32) : zFF x mX6_isPart 2 [.int k, .int v] (w) (some (.int (zb (zBw k 1 5 ∧ zBw v 0 (ztopH k))))) (w) := by
  refine zFG.start RX6 cX6_isPart 2 (some .boolean) rfl rfl (by decide +kernel) (Nat.le_of_ble_eq_true rfl) ?_
  intro p e s m ar below meth c ls A Q hx hb hr hml hown hts hlocks hK hE hA hQ hl hw
  have hl : lv_has ls 2 [(0, .int k), (1, .int v)] := hl
  have hw : zHw x A s.heap (w) s.heap [] := hw
  refine lv_iload_n hx hb dX6_isPart_0 rfl (lv_at hl 0 rfl) ?_
  rcases Decidable.em (k = 1) with k1 | k1
  · refine W.eq (g2 := F0 m 1 ls (.int 1 :: [])) (by rw [k1]) ?_
    refine lv_tableIn (off := 31) (tgt := 32) hx hb dX6_isPart_1 (by decide) (by decide) (by decide) (by decide) ?_
    refine lv_iload_n hx hb dX6_isPart_32 rfl (lv_at hl 1 rfl) ?_
    refine zcSwi (r := zb (0 ≤ v ∧ v < 6)) hx hb hml hown hts hl.1 hK hE hA lkX6_70 (c_X6_isStreet x (w) v) ⟨Nat.le_of_ble_eq_true rfl, Nat.le_of_ble_eq_true rfl⟩ ⟨Nat.zero_le _, Nat.zero_le _⟩ hw rfl rfl (Nat.le_of_ble_eq_true rfl) dX6_isPart_33 (fun H locs hw => ?_)
    have hw : zHw x A s.heap (w) H locs := hw
    exact zFG.zret hx hb hr hlocks hQ hw rfl dX6_isPart_36 (zb2i_nar _) ⟨zsi (zb_iff (by subst k1; exact ⟨fun h => ⟨by decide, h.1, Int32.le_iff_toInt_le.mpr (by have := Int32.lt_iff_toInt_lt.mp h.2; have e : (5 : Int32).toInt = 5 := rfl; have e6 : (6 : Int32).toInt = 6 := rfl; show v.toInt ≤ (5 : Int32).toInt; omega)⟩, fun h => ⟨h.2.1, Int32.lt_iff_toInt_lt.mpr (by have := Int32.le_iff_toInt_le.mp (show v ≤ 5 from h.2.2); have e : (5 : Int32).toInt = 5 := rfl; have e6 : (6 : Int32).toInt = 6 := rfl; omega)⟩⟩)), rfl⟩
  rcases Decidable.em (k = 2) with k2 | k2
  · refine W.eq (g2 := F0 m 1 ls (.int 2 :: [])) (by rw [k2]) ?_
    refine lv_tableIn (off := 36) (tgt := 37) hx hb dX6_isPart_1 (by decide) (by decide) (by decide) (by decide) ?_
    refine lv_iload_n hx hb dX6_isPart_37 rfl (lv_at hl 1 rfl) ?_
    refine lv_i2l hx hb dX6_isPart_38 rfl ?_
    refine lv_lconst (v := 0) hx hb dX6_isPart_39 (by decide) ?_
    refine lv_ldc2 (v := 99) hx hb hown (hts _ ckX6_68) dX6_isPart_40 ?_
    refine zcSwi (r := zb (0 ≤ v ∧ v ≤ 99)) hx hb hml hown hts hl.1 hK hE hA lkX6_48 (c_X6_inI x (w) v 0 99) ⟨Nat.le_of_ble_eq_true rfl, Nat.le_of_ble_eq_true rfl⟩ ⟨Nat.zero_le _, Nat.zero_le _⟩ hw rfl rfl (Nat.le_of_ble_eq_true rfl) dX6_isPart_43 (fun H locs hw => ?_)
    have hw : zHw x A s.heap (w) H locs := hw
    exact zFG.zret hx hb hr hlocks hQ hw rfl dX6_isPart_46 (zb2i_nar _) ⟨zsi (zb_iff (by subst k2; exact ⟨fun h => ⟨by decide, h⟩, fun h => h.2⟩)), rfl⟩
  rcases Decidable.em (k = 3) with k3 | k3
  · refine W.eq (g2 := F0 m 1 ls (.int 3 :: [])) (by rw [k3]) ?_
    refine lv_tableIn (off := 46) (tgt := 47) hx hb dX6_isPart_1 (by decide) (by decide) (by decide) (by decide) ?_
    refine lv_iload_n hx hb dX6_isPart_47 rfl (lv_at hl 1 rfl) ?_
    refine lv_i2l hx hb dX6_isPart_48 rfl ?_
    refine lv_lconst (v := 0) hx hb dX6_isPart_49 (by decide) ?_
    refine lv_ldc2 (v := 2) hx hb hown (hts _ ckX6_110) dX6_isPart_50 ?_
    refine zcSwi (r := zb (0 ≤ v ∧ v ≤ 2)) hx hb hml hown hts hl.1 hK hE hA lkX6_48 (c_X6_inI x (w) v 0 2) ⟨Nat.le_of_ble_eq_true rfl, Nat.le_of_ble_eq_true rfl⟩ ⟨Nat.zero_le _, Nat.zero_le _⟩ hw rfl rfl (Nat.le_of_ble_eq_true rfl) dX6_isPart_53 (fun H locs hw => ?_)
    have hw : zHw x A s.heap (w) H locs := hw
    exact zFG.zret hx hb hr hlocks hQ hw rfl dX6_isPart_56 (zb2i_nar _) ⟨zsi (zb_iff (by subst k3; exact ⟨fun h => ⟨by decide, h⟩, fun h => h.2⟩)), rfl⟩
  rcases Decidable.em (k = 4) with k4 | k4
  · refine W.eq (g2 := F0 m 1 ls (.int 4 :: [])) (by rw [k4]) ?_
    refine lv_tableIn (off := 56) (tgt := 57) hx hb dX6_isPart_1 (by decide) (by decide) (by decide) (by decide) ?_
    refine lv_iload_n hx hb dX6_isPart_57 rfl (lv_at hl 1 rfl) ?_
    refine lv_i2l hx hb dX6_isPart_58 rfl ?_
    refine lv_lconst (v := 0) hx hb dX6_isPart_59 (by decide) ?_
    refine lv_ldc2 (v := 999) hx hb hown (hts _ ckX6_112) dX6_isPart_60 ?_
    refine zcSwi (r := zb (0 ≤ v ∧ v ≤ 999)) hx hb hml hown hts hl.1 hK hE hA lkX6_48 (c_X6_inI x (w) v 0 999) ⟨Nat.le_of_ble_eq_true rfl, Nat.le_of_ble_eq_true rfl⟩ ⟨Nat.zero_le _, Nat.zero_le _⟩ hw rfl rfl (Nat.le_of_ble_eq_true rfl) dX6_isPart_63 (fun H locs hw => ?_)
    have hw : zHw x A s.heap (w) H locs := hw
    exact zFG.zret hx hb hr hlocks hQ hw rfl dX6_isPart_66 (zb2i_nar _) ⟨zsi (zb_iff (by subst k4; exact ⟨fun h => ⟨by decide, h⟩, fun h => h.2⟩)), rfl⟩
  refine lv_tableOut (tgt := 67) hx hb dX6_isPart_1 (zoutp4 k1 k2 k3 k4) (by decide) ?_
  refine lv_iload_n hx hb dX6_isPart_67 rfl (lv_at hl 0 rfl) ?_
  refine lv_iconst (v := 5) hx hb dX6_isPart_68 (by decide) ?_
  refine lv_icmp_ne (tgt := 86) hx hb dX6_isPart_69 (by decide) (fun c69 => ?_) (fun c69 => ?_)
  · refine lv_iconst (v := 0) hx hb dX6_isPart_86 (by decide) ?_
    exact zFG.zret hx hb hr hlocks hQ hw rfl dX6_isPart_87 (by decide) ⟨zsi (by first | (subst c69; exact (zb_t ⟨by decide, c79⟩).symm) | (subst c69; exact (zb_f (fun h => c79 h.2)).symm) | exact (zb_f (fun h => zno15 k1 k2 k3 k4 c69 h.1)).symm), rfl⟩
  · refine lv_iload_n hx hb dX6_isPart_72 rfl (lv_at hl 1 rfl) ?_
    refine lv_i2l hx hb dX6_isPart_73 rfl ?_
    refine lv_lconst (v := 0) hx hb dX6_isPart_74 (by decide) ?_
    refine lv_lconst (v := 1) hx hb dX6_isPart_75 (by decide) ?_
    refine zcSwi (r := zb (0 ≤ v ∧ v ≤ 1)) hx hb hml hown hts hl.1 hK hE hA lkX6_48 (c_X6_inI x (w) v 0 1) ⟨Nat.le_of_ble_eq_true rfl, Nat.le_of_ble_eq_true rfl⟩ ⟨Nat.zero_le _, Nat.zero_le _⟩ hw rfl rfl (Nat.le_of_ble_eq_true rfl) dX6_isPart_76 (fun H locs hw => ?_)
    have hw : zHw x A s.heap (w) H locs := hw
    refine lv_if_eq (tgt := 86) hx hb dX6_isPart_79 (by decide) (fun c79 => ?_) (fun c79 => ?_)
    · have c79 := zb_0.mp c79
      refine lv_iconst (v := 0) hx hb dX6_isPart_86 (by decide) ?_
      exact zFG.zret hx hb hr hlocks hQ hw rfl dX6_isPart_87 (by decide) ⟨zsi (by first | (subst c69; exact (zb_t ⟨by decide, c79⟩).symm) | (subst c69; exact (zb_f (fun h => c79 h.2)).symm) | exact (zb_f (fun h => zno15 k1 k2 k3 k4 c69 h.1)).symm), rfl⟩
    · have c79 := zb_n0.mp c79
      refine lv_iconst (v := 1) hx hb dX6_isPart_82 (by decide) ?_
      refine lv_goto (tgt := 87) hx hb dX6_isPart_83 (by decide) ?_
      exact zFG.zret hx hb hr hlocks hQ hw rfl dX6_isPart_87 (by decide) ⟨zsi (by first | (subst c69; exact (zb_t ⟨by decide, c79⟩).symm) | (subst c69; exact (zb_f (fun h => c79 h.2)).symm) | exact (zb_f (fun h => zno15 k1 k2 k3 k4 c69 h.1)).symm), rfl⟩

set_option maxHeartbeats 4000000 in
set_option maxRecDepth 100000 in
theorem c_X6_set (x : zX) (a : Nat → Nat) (q : Nat → Int32) (g : zT) (nu : Nat → Nat → Int64) (S : zT) (h w v : Int32) (hI : zInv S) : zFG x mX6_set 3 [.ref (a 0), .int h, .int w, .int v] (zMW x a q g nu (zflat S)) (zPM x a q g nu (zm_set S (g 5) h w v)) := by
  refine zFG.start RX6 cX6_set 4 (some .int) rfl rfl (by decide +kernel) (Nat.le_of_ble_eq_true rfl) ?_
  intro p e s m ar below meth c ls A Q hx hb hr hml hown hts hlocks hK hE hA hQ hl hw
  have hl : lv_has ls 4 [(0, .ref (a 0)), (1, .int h), (2, .int w), (3, .int v)] := hl
  have hw : zHw x A s.heap (zMW x a q g nu (zflat S)) s.heap [] := hw
  refine lv_aload_n hx hb dX6_set_0 rfl (lv_at hl 0 rfl) ?_
  refine lv_iload_n hx hb dX6_set_1 rfl (lv_at hl 1 rfl) ?_
  refine zcVwi (r := zb (0 ≤ h ∧ h < S 0 0)) hx hb hml hown hts hl.1 hK hE hA lkX6_98 (c_X6_isHole x a q g nu S h hI) ⟨Nat.le_of_ble_eq_true rfl, Nat.le_of_ble_eq_true rfl⟩ ⟨Nat.zero_le _, Nat.zero_le _⟩ hw 0 4 rfl rfl rfl rfl (Nat.le_of_ble_eq_true rfl) dX6_set_2 (fun H locs hw => ?_)
  have hw : zHw x A s.heap (zMW x a q g nu (zflat S)) H locs := hw
  refine lv_if_eq (tgt := 29) hx hb dX6_set_5 (by decide) (fun c5 => ?_) (fun c5 => ?_)
  · have c5 := zb_0.mp c5
    refine lv_aload_n hx hb dX6_set_29 rfl (lv_at hl 0 rfl) ?_
    refine lv_ldc (v := (-1000000001)) hx hb hown (hts _ ckX6_45) dX6_set_30 ?_
    refine zcVwi (r := (-1000000001)) hx hb hml hown hts hl.1 hK hE hA lkX6_64 (c_X6_finds x a q g nu (zflat S) (-1000000001) 0 (by decide) (by decide)) ⟨Nat.le_of_ble_eq_true rfl, Nat.le_of_ble_eq_true rfl⟩ ⟨Nat.zero_le _, Nat.zero_le _⟩ hw 0 4 rfl rfl rfl rfl (Nat.le_of_ble_eq_true rfl) dX6_set_32 (fun H locs hw => ?_)
    have hw : zHw x A s.heap (zMW x a q (zU g 5 0 (g 5 0 + 1)) nu (zflat S)) H locs := hw
    exact zFG.iret hx hb hr hlocks hQ hw rfl dX6_set_35 (zPM.mk (t := zm_set S (g 5) h w v) (r := (-1000000001)) (S' := S) (fd' := zFd (g 5) 0) (by unfold zm_set; first | (rw [if_neg (fun h => c13 h.2)]; rfl) | (rw [if_neg (fun h => c5 h.1)]; rfl)) (g 4) (congrArg (fun z => zMW x a q z nu _) (zG1 g 0)))
  · have c5 := zb_n0.mp c5
    refine lv_iload_n hx hb dX6_set_8 rfl (lv_at hl 2 rfl) ?_
    refine lv_iload_n hx hb dX6_set_9 rfl (lv_at hl 3 rfl) ?_
    refine zcSwi (r := zb (zBw w 1 5 ∧ zBw v 0 (ztopH w))) hx hb hml hown hts hl.1 hK hE hA lkX6_114 (c_X6_isPart x (zMW x a q g nu (zflat S)) w v) ⟨Nat.le_of_ble_eq_true rfl, Nat.le_of_ble_eq_true rfl⟩ ⟨Nat.zero_le _, Nat.zero_le _⟩ hw rfl rfl (Nat.le_of_ble_eq_true rfl) dX6_set_10 (fun H locs hw => ?_)
    have hw : zHw x A s.heap (zMW x a q g nu (zflat S)) H locs := hw
    refine lv_if_eq (tgt := 29) hx hb dX6_set_13 (by decide) (fun c13 => ?_) (fun c13 => ?_)
    · have c13 := zb_0.mp c13
      refine lv_aload_n hx hb dX6_set_29 rfl (lv_at hl 0 rfl) ?_
      refine lv_ldc (v := (-1000000001)) hx hb hown (hts _ ckX6_45) dX6_set_30 ?_
      refine zcVwi (r := (-1000000001)) hx hb hml hown hts hl.1 hK hE hA lkX6_64 (c_X6_finds x a q g nu (zflat S) (-1000000001) 0 (by decide) (by decide)) ⟨Nat.le_of_ble_eq_true rfl, Nat.le_of_ble_eq_true rfl⟩ ⟨Nat.zero_le _, Nat.zero_le _⟩ hw 0 4 rfl rfl rfl rfl (Nat.le_of_ble_eq_true rfl) dX6_set_32 (fun H locs hw => ?_)
      have hw : zHw x A s.heap (zMW x a q (zU g 5 0 (g 5 0 + 1)) nu (zflat S)) H locs := hw
      exact zFG.iret hx hb hr hlocks hQ hw rfl dX6_set_35 (zPM.mk (t := zm_set S (g 5) h w v) (r := (-1000000001)) (S' := S) (fd' := zFd (g 5) 0) (by unfold zm_set; first | (rw [if_neg (fun h => c13 h.2)]; rfl) | (rw [if_neg (fun h => c5 h.1)]; rfl)) (g 4) (congrArg (fun z => zMW x a q z nu _) (zG1 g 0)))
    · have c13 := zb_n0.mp c13
      obtain ⟨i, hi8, hiN, rfl⟩ := zH_nat hI c5
      obtain ⟨j, hj, rfl⟩ := zBw_nat (hi := 5) c13.1 (by decide) (by decide)
      refine lv_aload_n hx hb dX6_set_16 rfl (lv_at hl 0 rfl) ?_
      refine lv_iload_n hx hb dX6_set_17 rfl (lv_at hl 1 rfl) ?_
      refine lv_iload_n hx hb dX6_set_18 rfl (lv_at hl 2 rfl) ?_
      refine zcSwi (r := nI (19 + 6 * i + j)) hx hb hml hown hts hl.1 hK hE hA lkX6_52 (c_X6_spotOf x (zMW x a q g nu (zflat S)) i j) ⟨Nat.le_of_ble_eq_true rfl, Nat.le_of_ble_eq_true rfl⟩ ⟨Nat.zero_le _, Nat.zero_le _⟩ hw rfl rfl (Nat.le_of_ble_eq_true rfl) dX6_set_19 (fun H locs hw => ?_)
      have hw : zHw x A s.heap (zMW x a q g nu (zflat S)) H locs := hw
      refine lv_iload_n hx hb dX6_set_22 rfl (lv_at hl 3 rfl) ?_
      refine zcVwi (r := zflat S (19 + 6 * i + j)) hx hb hml hown hts hl.1 hK hE hA lkX6_61 (c_X6_becomes x a q g nu (zflat S) (19 + 6 * i + j) v (by omega)) ⟨Nat.le_of_ble_eq_true rfl, Nat.le_of_ble_eq_true rfl⟩ ⟨Nat.zero_le _, Nat.zero_le _⟩ hw 0 4 rfl rfl rfl rfl (Nat.le_of_ble_eq_true rfl) dX6_set_23 (fun H locs hw => ?_)
      have hw : zHw x A s.heap (zMW x a q g nu (zflat (zU S (3 + j) i v))) H locs := (by rw [zflat_uit S v (show j < 6 by omega)] at hw; exact hw)
      refine W.eq (g2 := F0 m 26 ls [.int (S (3 + j) i)]) (by rw [zflat_it S (show j < 6 by omega)]) ?_
      refine lv_goto (tgt := 35) hx hb dX6_set_26 (by decide) ?_
      exact zFG.iret hx hb hr hlocks hQ hw rfl dX6_set_35 (zPM.mk (t := zm_set S (g 5) (nI i) (nI j) v) (r := S (3 + j) i) (S' := zU S (3 + j) i v) (fd' := g 5) (by unfold zm_set; rw [if_pos ⟨c5, c13.1, c13.2⟩, zc_nI (show j < 2147483648 by omega), zc_nI (show i < 2147483648 by omega)]) (g 4) (congrArg (fun z => zMW x a q z nu _) (zG0 g)))

set_option maxHeartbeats 4000000 in
set_option maxRecDepth 100000 in
theorem c_X6_turn (x : zX) (a : Nat → Nat) (q : Nat → Int32) (g : zT) (nu : Nat → Nat → Int64) (S : zT) (h k : Int32) (hI : zInv S) : zFG x mX6_turn 2 [.ref (a 0), .int h, .int k] (zMW x a q g nu (zflat S)) (zPM x a q g nu (zm_turn S (g 5) h k)) := by
  refine zFG.start RX6 cX6_turn 3 (some .int) rfl rfl (by decide +kernel) (Nat.le_of_ble_eq_true rfl) ?_
  intro p e s m ar below meth c ls A Q hx hb hr hml hown hts hlocks hK hE hA hQ hl hw
  have hl : lv_has ls 3 [(0, .ref (a 0)), (1, .int h), (2, .int k)] := hl
  have hw : zHw x A s.heap (zMW x a q g nu (zflat S)) s.heap [] := hw
  refine lv_aload_n hx hb dX6_turn_0 rfl (lv_at hl 0 rfl) ?_
  refine lv_iload_n hx hb dX6_turn_1 rfl (lv_at hl 1 rfl) ?_
  refine zcVwi (r := zb (0 ≤ h ∧ h < S 0 0)) hx hb hml hown hts hl.1 hK hE hA lkX6_98 (c_X6_isHole x a q g nu S h hI) ⟨Nat.le_of_ble_eq_true rfl, Nat.le_of_ble_eq_true rfl⟩ ⟨Nat.zero_le _, Nat.zero_le _⟩ hw 0 4 rfl rfl rfl rfl (Nat.le_of_ble_eq_true rfl) dX6_turn_2 (fun H locs hw => ?_)
  have hw : zHw x A s.heap (zMW x a q g nu (zflat S)) H locs := hw
  refine lv_if_eq (tgt := 28) hx hb dX6_turn_5 (by decide) (fun c5 => ?_) (fun c5 => ?_)
  · have c5 := zb_0.mp c5
    refine lv_aload_n hx hb dX6_turn_28 rfl (lv_at hl 0 rfl) ?_
    refine lv_ldc (v := (-1000000001)) hx hb hown (hts _ ckX6_45) dX6_turn_29 ?_
    refine zcVwi (r := (-1000000001)) hx hb hml hown hts hl.1 hK hE hA lkX6_64 (c_X6_finds x a q g nu (zflat S) (-1000000001) 0 (by decide) (by decide)) ⟨Nat.le_of_ble_eq_true rfl, Nat.le_of_ble_eq_true rfl⟩ ⟨Nat.zero_le _, Nat.zero_le _⟩ hw 0 4 rfl rfl rfl rfl (Nat.le_of_ble_eq_true rfl) dX6_turn_31 (fun H locs hw => ?_)
    have hw : zHw x A s.heap (zMW x a q (zU g 5 0 (g 5 0 + 1)) nu (zflat S)) H locs := hw
    exact zFG.iret hx hb hr hlocks hQ hw rfl dX6_turn_34 (zPM.mk (t := zm_turn S (g 5) h k) (r := (-1000000001)) (S' := S) (fd' := zFd (g 5) 0) (by unfold zm_turn; first | (rw [if_neg (fun h => c12 h.2)]; rfl) | (rw [if_neg (fun h => c5 h.1)]; rfl)) (g 4) (congrArg (fun z => zMW x a q z nu _) (zG1 g 0)))
  · have c5 := zb_n0.mp c5
    refine lv_iload_n hx hb dX6_turn_8 rfl (lv_at hl 2 rfl) ?_
    refine zcSwi (r := zb (0 ≤ k ∧ k < 6)) hx hb hml hown hts hl.1 hK hE hA lkX6_80 (c_X6_isKind x (zMW x a q g nu (zflat S)) k) ⟨Nat.le_of_ble_eq_true rfl, Nat.le_of_ble_eq_true rfl⟩ ⟨Nat.zero_le _, Nat.zero_le _⟩ hw rfl rfl (Nat.le_of_ble_eq_true rfl) dX6_turn_9 (fun H locs hw => ?_)
    have hw : zHw x A s.heap (zMW x a q g nu (zflat S)) H locs := hw
    refine lv_if_eq (tgt := 28) hx hb dX6_turn_12 (by decide) (fun c12 => ?_) (fun c12 => ?_)
    · have c12 := zb_0.mp c12
      refine lv_aload_n hx hb dX6_turn_28 rfl (lv_at hl 0 rfl) ?_
      refine lv_ldc (v := (-1000000001)) hx hb hown (hts _ ckX6_45) dX6_turn_29 ?_
      refine zcVwi (r := (-1000000001)) hx hb hml hown hts hl.1 hK hE hA lkX6_64 (c_X6_finds x a q g nu (zflat S) (-1000000001) 0 (by decide) (by decide)) ⟨Nat.le_of_ble_eq_true rfl, Nat.le_of_ble_eq_true rfl⟩ ⟨Nat.zero_le _, Nat.zero_le _⟩ hw 0 4 rfl rfl rfl rfl (Nat.le_of_ble_eq_true rfl) dX6_turn_31 (fun H locs hw => ?_)
      have hw : zHw x A s.heap (zMW x a q (zU g 5 0 (g 5 0 + 1)) nu (zflat S)) H locs := hw
      exact zFG.iret hx hb hr hlocks hQ hw rfl dX6_turn_34 (zPM.mk (t := zm_turn S (g 5) h k) (r := (-1000000001)) (S' := S) (fd' := zFd (g 5) 0) (by unfold zm_turn; first | (rw [if_neg (fun h => c12 h.2)]; rfl) | (rw [if_neg (fun h => c5 h.1)]; rfl)) (g 4) (congrArg (fun z => zMW x a q z nu _) (zG1 g 0)))
    · have c12 := zb_n0.mp c12
      obtain ⟨i, hi8, hiN, rfl⟩ := zH_nat hI c5
      refine lv_aload_n hx hb dX6_turn_15 rfl (lv_at hl 0 rfl) ?_
      refine lv_iload_n hx hb dX6_turn_16 rfl (lv_at hl 1 rfl) ?_
      refine lv_iconst (v := 0) hx hb dX6_turn_17 (by decide) ?_
      refine zcSwi (r := nI (19 + 6 * i + 0)) hx hb hml hown hts hl.1 hK hE hA lkX6_52 (c_X6_spotOf x (zMW x a q g nu (zflat S)) i 0) ⟨Nat.le_of_ble_eq_true rfl, Nat.le_of_ble_eq_true rfl⟩ ⟨Nat.zero_le _, Nat.zero_le _⟩ hw rfl rfl (Nat.le_of_ble_eq_true rfl) dX6_turn_18 (fun H locs hw => ?_)
      have hw : zHw x A s.heap (zMW x a q g nu (zflat S)) H locs := hw
      refine lv_iload_n hx hb dX6_turn_21 rfl (lv_at hl 2 rfl) ?_
      refine zcVwi (r := zflat S (19 + 6 * i + 0)) hx hb hml hown hts hl.1 hK hE hA lkX6_61 (c_X6_becomes x a q g nu (zflat S) (19 + 6 * i + 0) k (by omega)) ⟨Nat.le_of_ble_eq_true rfl, Nat.le_of_ble_eq_true rfl⟩ ⟨Nat.zero_le _, Nat.zero_le _⟩ hw 0 4 rfl rfl rfl rfl (Nat.le_of_ble_eq_true rfl) dX6_turn_22 (fun H locs hw => ?_)
      have hw : zHw x A s.heap (zMW x a q g nu (zflat (zU S 3 i k))) H locs := (by rw [zflat_uit S k (show 0 < 6 by omega)] at hw; exact hw)
      refine W.eq (g2 := F0 m 25 ls [.int (S 3 i)]) (by rw [zflat_it S (show 0 < 6 by omega)]) ?_
      refine lv_goto (tgt := 34) hx hb dX6_turn_25 (by decide) ?_
      exact zFG.iret hx hb hr hlocks hQ hw rfl dX6_turn_34 (zPM.mk (t := zm_turn S (g 5) (nI i) k) (r := S 3 i) (S' := zU S 3 i k) (fd' := g 5) (by unfold zm_turn; rw [if_pos ⟨c5, c12⟩, zc_nI (show i < 2147483648 by omega)]) (g 4) (congrArg (fun z => zMW x a q z nu _) (zG0 g)))

set_option maxHeartbeats 4000000 in
set_option maxRecDepth 100000 in
theorem c_X6_isUnder (x : zX) (w : va_W) (k o : Int32) (hk : zIn k 5) : zFF x mX6_isUnder 0 [.int k, .int o] (w) (some (.int (zb (zUn k o)))) (w) := by
  refine zFG.start RX6 cX6_isUnder 2 (some .boolean) rfl rfl (by decide +kernel) (Nat.le_of_ble_eq_true rfl) ?_
  intro p e s m ar below meth c ls A Q hx hb hr hml hown hts hlocks hK hE hA hQ hl hw
  have hl : lv_has ls 2 [(0, .int k), (1, .int o)] := hl
  have hw : zHw x A s.heap (w) s.heap [] := hw
  refine lv_iload_n hx hb dX6_isUnder_0 rfl (lv_at hl 1 rfl) ?_
  refine lv_if_eq (tgt := 21) hx hb dX6_isUnder_1 (by decide) (fun c1 => ?_) (fun c1 => ?_)
  · refine lv_iconst (v := 1) hx hb dX6_isUnder_21 (by decide) ?_
    refine lv_goto (tgt := 26) hx hb dX6_isUnder_22 (by decide) ?_
    exact zFG.zret hx hb hr hlocks hQ hw rfl dX6_isUnder_26 (by decide) ⟨zsi (by obtain ⟨n, hn, rfl⟩ := hk; exact (zb_t (by first | exact Or.inl c1 | exact Or.inr (Or.inl c6) | exact zund hn c11 c18)).symm), rfl⟩
  · refine lv_iload_n hx hb dX6_isUnder_4 rfl (lv_at hl 0 rfl) ?_
    refine lv_iload_n hx hb dX6_isUnder_5 rfl (lv_at hl 1 rfl) ?_
    refine lv_icmp_eq (tgt := 21) hx hb dX6_isUnder_6 (by decide) (fun c6 => ?_) (fun c6 => ?_)
    · refine lv_iconst (v := 1) hx hb dX6_isUnder_21 (by decide) ?_
      refine lv_goto (tgt := 26) hx hb dX6_isUnder_22 (by decide) ?_
      exact zFG.zret hx hb hr hlocks hQ hw rfl dX6_isUnder_26 (by decide) ⟨zsi (by obtain ⟨n, hn, rfl⟩ := hk; exact (zb_t (by first | exact Or.inl c1 | exact Or.inr (Or.inl c6) | exact zund hn c11 c18)).symm), rfl⟩
    · refine lv_iload_n hx hb dX6_isUnder_9 rfl (lv_at hl 0 rfl) ?_
      refine lv_iconst (v := 3) hx hb dX6_isUnder_10 (by decide) ?_
      refine lv_icmp_le (tgt := 25) hx hb dX6_isUnder_11 (by decide) (fun c11 => ?_) (fun c11 => ?_)
      · refine lv_iconst (v := 0) hx hb dX6_isUnder_25 (by decide) ?_
        exact zFG.zret hx hb hr hlocks hQ hw rfl dX6_isUnder_26 (by decide) ⟨zsi (by obtain ⟨n, hn, rfl⟩ := hk; exact (zb_f (by first | exact zundn hn c1 c6 (Or.inl c11) | exact zundn hn c1 c6 (Or.inr c18))).symm), rfl⟩
      · refine lv_iload_n hx hb dX6_isUnder_14 rfl (lv_at hl 0 rfl) ?_
        refine lv_iconst (v := 3) hx hb dX6_isUnder_15 (by decide) ?_
        refine lv_isub hx hb dX6_isUnder_16 ?_
        refine lv_iload_n hx hb dX6_isUnder_17 rfl (lv_at hl 1 rfl) ?_
        refine lv_icmp_ne (tgt := 25) hx hb dX6_isUnder_18 (by decide) (fun c18 => ?_) (fun c18 => ?_)
        · refine lv_iconst (v := 0) hx hb dX6_isUnder_25 (by decide) ?_
          exact zFG.zret hx hb hr hlocks hQ hw rfl dX6_isUnder_26 (by decide) ⟨zsi (by obtain ⟨n, hn, rfl⟩ := hk; exact (zb_f (by first | exact zundn hn c1 c6 (Or.inl c11) | exact zundn hn c1 c6 (Or.inr c18))).symm), rfl⟩
        · refine lv_iconst (v := 1) hx hb dX6_isUnder_21 (by decide) ?_
          refine lv_goto (tgt := 26) hx hb dX6_isUnder_22 (by decide) ?_
          exact zFG.zret hx hb hr hlocks hQ hw rfl dX6_isUnder_26 (by decide) ⟨zsi (by obtain ⟨n, hn, rfl⟩ := hk; exact (zb_t (by first | exact Or.inl c1 | exact Or.inr (Or.inl c6) | exact zund hn c11 c18)).symm), rfl⟩

set_option maxHeartbeats 4000000 in
set_option maxRecDepth 100000 in
theorem c_X6_as (x : zX) (a : Nat → Nat) (q : Nat → Int32) (g : zT) (nu : Nat → Nat → Int64) (S : zT) (h k : Int32) (hI : zInv S) : zFG x mX6_as 2 [.ref (a 0), .int h, .int k] (zMW x a q g nu (zflat S)) (zPM x a q g nu (zm_as S (g 5) h k)) := by
  refine zFG.start RX6 cX6_as 3 (some .int) rfl rfl (by decide +kernel) (Nat.le_of_ble_eq_true rfl) ?_
  intro p e s m ar below meth c ls A Q hx hb hr hml hown hts hlocks hK hE hA hQ hl hw
  have hl : lv_has ls 3 [(0, .ref (a 0)), (1, .int h), (2, .int k)] := hl
  have hw : zHw x A s.heap (zMW x a q g nu (zflat S)) s.heap [] := hw
  refine lv_aload_n hx hb dX6_as_0 rfl (lv_at hl 0 rfl) ?_
  refine lv_iload_n hx hb dX6_as_1 rfl (lv_at hl 1 rfl) ?_
  refine zcVwi (r := zb (0 ≤ h ∧ h < S 0 0)) hx hb hml hown hts hl.1 hK hE hA lkX6_98 (c_X6_isHole x a q g nu S h hI) ⟨Nat.le_of_ble_eq_true rfl, Nat.le_of_ble_eq_true rfl⟩ ⟨Nat.zero_le _, Nat.zero_le _⟩ hw 0 4 rfl rfl rfl rfl (Nat.le_of_ble_eq_true rfl) dX6_as_2 (fun H locs hw => ?_)
  have hw : zHw x A s.heap (zMW x a q g nu (zflat S)) H locs := hw
  refine lv_if_eq (tgt := 15) hx hb dX6_as_5 (by decide) (fun c5 => ?_) (fun c5 => ?_)
  · have c5 := zb_0.mp c5
    refine lv_aload_n hx hb dX6_as_15 rfl (lv_at hl 0 rfl) ?_
    refine lv_ldc (v := (-1000000001)) hx hb hown (hts _ ckX6_45) dX6_as_16 ?_
    refine zcVwi (r := (-1000000001)) hx hb hml hown hts hl.1 hK hE hA lkX6_64 (c_X6_finds x a q g nu (zflat S) (-1000000001) 0 (by decide) (by decide)) ⟨Nat.le_of_ble_eq_true rfl, Nat.le_of_ble_eq_true rfl⟩ ⟨Nat.zero_le _, Nat.zero_le _⟩ hw 0 4 rfl rfl rfl rfl (Nat.le_of_ble_eq_true rfl) dX6_as_18 (fun H locs hw => ?_)
    have hw : zHw x A s.heap (zMW x a q (zU g 5 0 (g 5 0 + 1)) nu (zflat S)) H locs := hw
    exact zFG.iret hx hb hr hlocks hQ hw rfl dX6_as_21 (zPM.mk (t := zm_as S (g 5) h k) (r := (-1000000001)) (S' := S) (fd' := zFd (g 5) 0) (by unfold zm_as; first | (rw [if_neg (fun h => c12 h.2)]; rfl) | (rw [if_neg (fun h => c5 h.1)]; rfl)) (g 4) (congrArg (fun z => zMW x a q z nu _) (zG1 g 0)))
  · have c5 := zb_n0.mp c5
    refine lv_iload_n hx hb dX6_as_8 rfl (lv_at hl 2 rfl) ?_
    refine zcSwi (r := zb (0 ≤ k ∧ k < 6)) hx hb hml hown hts hl.1 hK hE hA lkX6_80 (c_X6_isKind x (zMW x a q g nu (zflat S)) k) ⟨Nat.le_of_ble_eq_true rfl, Nat.le_of_ble_eq_true rfl⟩ ⟨Nat.zero_le _, Nat.zero_le _⟩ hw rfl rfl (Nat.le_of_ble_eq_true rfl) dX6_as_9 (fun H locs hw => ?_)
    have hw : zHw x A s.heap (zMW x a q g nu (zflat S)) H locs := hw
    refine lv_if_ne (tgt := 22) hx hb dX6_as_12 (by decide) (fun c12 => ?_) (fun c12 => ?_)
    · have c12 := zb_n0.mp c12
      obtain ⟨i, hi8, hiN, rfl⟩ := zH_nat hI c5
      refine lv_aload_n hx hb dX6_as_22 rfl (lv_at hl 0 rfl) ?_
      refine lv_iload_n hx hb dX6_as_23 rfl (lv_at hl 1 rfl) ?_
      refine lv_iconst (v := 0) hx hb dX6_as_24 (by decide) ?_
      refine zcVwi (r := S 3 i) hx hb hml hown hts hl.1 hK hE hA lkX6_74 (c_X6_its x a q g nu S i 0 (by omega) (by omega)) ⟨Nat.le_of_ble_eq_true rfl, Nat.le_of_ble_eq_true rfl⟩ ⟨Nat.zero_le _, Nat.zero_le _⟩ hw 0 4 rfl rfl rfl rfl (Nat.le_of_ble_eq_true rfl) dX6_as_25 (fun H locs hw => ?_)
      have hw : zHw x A s.heap (zMW x a q g nu (zflat S)) H locs := hw
      refine lv_iload_n hx hb dX6_as_28 rfl (lv_at hl 2 rfl) ?_
      refine zcSwi (r := zb (zUn (S 3 i) k)) hx hb hml hown hts hl.1 hK hE hA lkX6_118 (c_X6_isUnder x (zMW x a q g nu (zflat S)) (S 3 i) k (hI.col 3 i (by decide) (by decide) hi8)) ⟨Nat.le_of_ble_eq_true rfl, Nat.le_of_ble_eq_true rfl⟩ ⟨Nat.zero_le _, Nat.zero_le _⟩ hw rfl rfl (Nat.le_of_ble_eq_true rfl) dX6_as_29 (fun H locs hw => ?_)
      have hw : zHw x A s.heap (zMW x a q g nu (zflat S)) H locs := hw
      refine lv_if_eq (tgt := 44) hx hb dX6_as_32 (by decide) (fun c32 => ?_) (fun c32 => ?_)
      · have c32 := zb_0.mp c32
        refine lv_aload_n hx hb dX6_as_44 rfl (lv_at hl 0 rfl) ?_
        refine lv_ldc (v := (-1000000003)) hx hb hown (hts _ ckX6_121) dX6_as_45 ?_
        refine zcVwi (r := (-1000000003)) hx hb hml hown hts hl.1 hK hE hA lkX6_64 (c_X6_finds x a q g nu (zflat S) (-1000000003) 2 (by decide) (by decide)) ⟨Nat.le_of_ble_eq_true rfl, Nat.le_of_ble_eq_true rfl⟩ ⟨Nat.zero_le _, Nat.zero_le _⟩ hw 0 4 rfl rfl rfl rfl (Nat.le_of_ble_eq_true rfl) dX6_as_47 (fun H locs hw => ?_)
        have hw : zHw x A s.heap (zMW x a q (zU g 5 2 (g 5 2 + 1)) nu (zflat S)) H locs := hw
        exact zFG.iret hx hb hr hlocks hQ hw rfl dX6_as_50 (zPM.mk (t := zm_as S (g 5) (nI i) k) (r := (-1000000003)) (S' := S) (fd' := zFd (g 5) 2) (by unfold zm_as; first | (rw [if_pos ⟨c5, c12⟩, if_pos (by rw [zc_nI (show i < 2147483648 by omega)]; exact c32), zc_nI (show i < 2147483648 by omega)]) | (rw [if_pos ⟨c5, c12⟩, if_neg (by rw [zc_nI (show i < 2147483648 by omega)]; exact c32)])) (g 4) (congrArg (fun z => zMW x a q z nu _) (zG1 g 2)))
      · have c32 := zb_n0.mp c32
        refine lv_aload_n hx hb dX6_as_35 rfl (lv_at hl 0 rfl) ?_
        refine lv_iload_n hx hb dX6_as_36 rfl (lv_at hl 1 rfl) ?_
        refine lv_iconst (v := 2) hx hb dX6_as_37 (by decide) ?_
        refine zcVwi (r := S 5 i) hx hb hml hown hts hl.1 hK hE hA lkX6_74 (c_X6_its x a q g nu S i 2 (by omega) (by omega)) ⟨Nat.le_of_ble_eq_true rfl, Nat.le_of_ble_eq_true rfl⟩ ⟨Nat.zero_le _, Nat.zero_le _⟩ hw 0 4 rfl rfl rfl rfl (Nat.le_of_ble_eq_true rfl) dX6_as_38 (fun H locs hw => ?_)
        have hw : zHw x A s.heap (zMW x a q g nu (zflat S)) H locs := hw
        refine lv_goto (tgt := 50) hx hb dX6_as_41 (by decide) ?_
        exact zFG.iret hx hb hr hlocks hQ hw rfl dX6_as_50 (zPM.mk (t := zm_as S (g 5) (nI i) k) (r := S 5 i) (S' := S) (fd' := g 5) (by unfold zm_as; first | (rw [if_pos ⟨c5, c12⟩, if_pos (by rw [zc_nI (show i < 2147483648 by omega)]; exact c32), zc_nI (show i < 2147483648 by omega)]) | (rw [if_pos ⟨c5, c12⟩, if_neg (by rw [zc_nI (show i < 2147483648 by omega)]; exact c32)])) (g 4) (congrArg (fun z => zMW x a q z nu _) (zG0 g)))
    · have c12 := zb_0.mp c12
      refine lv_aload_n hx hb dX6_as_15 rfl (lv_at hl 0 rfl) ?_
      refine lv_ldc (v := (-1000000001)) hx hb hown (hts _ ckX6_45) dX6_as_16 ?_
      refine zcVwi (r := (-1000000001)) hx hb hml hown hts hl.1 hK hE hA lkX6_64 (c_X6_finds x a q g nu (zflat S) (-1000000001) 0 (by decide) (by decide)) ⟨Nat.le_of_ble_eq_true rfl, Nat.le_of_ble_eq_true rfl⟩ ⟨Nat.zero_le _, Nat.zero_le _⟩ hw 0 4 rfl rfl rfl rfl (Nat.le_of_ble_eq_true rfl) dX6_as_18 (fun H locs hw => ?_)
      have hw : zHw x A s.heap (zMW x a q (zU g 5 0 (g 5 0 + 1)) nu (zflat S)) H locs := hw
      exact zFG.iret hx hb hr hlocks hQ hw rfl dX6_as_21 (zPM.mk (t := zm_as S (g 5) h k) (r := (-1000000001)) (S' := S) (fd' := zFd (g 5) 0) (by unfold zm_as; first | (rw [if_neg (fun h => c12 h.2)]; rfl) | (rw [if_neg (fun h => c5 h.1)]; rfl)) (g 4) (congrArg (fun z => zMW x a q z nu _) (zG1 g 0)))

set_option maxHeartbeats 4000000 in
set_option maxRecDepth 100000 in
theorem c_X6_fill (x : zX) (a : Nat → Nat) (q : Nat → Int32) (g : zT) (nu : Nat → Nat → Int64) (S : zT) (h w : Int32) (hI : zInv S) : zFG x mX6_fill 5 [.ref (a 0), .int h, .int w] (zMW x a q g nu (zflat S)) (zPM x a q g nu (zm_fill S (g 5) h w)) := by
  refine zFG.start RX6 cX6_fill 3 (some .int) rfl rfl (by decide +kernel) (Nat.le_of_ble_eq_true rfl) ?_
  intro p e s m ar below meth c ls A Q hx hb hr hml hown hts hlocks hK hE hA hQ hl hw
  have hl : lv_has ls 3 [(0, .ref (a 0)), (1, .int h), (2, .int w)] := hl
  have hw : zHw x A s.heap (zMW x a q g nu (zflat S)) s.heap [] := hw
  refine lv_aload_n hx hb dX6_fill_0 rfl (lv_at hl 0 rfl) ?_
  refine lv_iload_n hx hb dX6_fill_1 rfl (lv_at hl 1 rfl) ?_
  refine zcVwi (r := zb (0 ≤ h ∧ h < S 0 0)) hx hb hml hown hts hl.1 hK hE hA lkX6_98 (c_X6_isHole x a q g nu S h hI) ⟨Nat.le_of_ble_eq_true rfl, Nat.le_of_ble_eq_true rfl⟩ ⟨Nat.zero_le _, Nat.zero_le _⟩ hw 0 4 rfl rfl rfl rfl (Nat.le_of_ble_eq_true rfl) dX6_fill_2 (fun H locs hw => ?_)
  have hw : zHw x A s.heap (zMW x a q g nu (zflat S)) H locs := hw
  refine lv_if_eq (tgt := 18) hx hb dX6_fill_5 (by decide) (fun c5 => ?_) (fun c5 => ?_)
  · have c5 := zb_0.mp c5
    refine lv_aload_n hx hb dX6_fill_18 rfl (lv_at hl 0 rfl) ?_
    refine lv_ldc (v := (-1000000001)) hx hb hown (hts _ ckX6_45) dX6_fill_19 ?_
    refine zcVwi (r := (-1000000001)) hx hb hml hown hts hl.1 hK hE hA lkX6_64 (c_X6_finds x a q g nu (zflat S) (-1000000001) 0 (by decide) (by decide)) ⟨Nat.le_of_ble_eq_true rfl, Nat.le_of_ble_eq_true rfl⟩ ⟨Nat.zero_le _, Nat.zero_le _⟩ hw 0 4 rfl rfl rfl rfl (Nat.le_of_ble_eq_true rfl) dX6_fill_21 (fun H locs hw => ?_)
    have hw : zHw x A s.heap (zMW x a q (zU g 5 0 (g 5 0 + 1)) nu (zflat S)) H locs := hw
    exact zFG.iret hx hb hr hlocks hQ hw rfl dX6_fill_24 (zPM.mk (t := zm_fill S (g 5) h w) (r := (-1000000001)) (S' := S) (fd' := zFd (g 5) 0) (by unfold zm_fill; first | (rw [if_neg (fun h => c15 h.2)]; rfl) | (rw [if_neg (fun h => c5 h.1)]; rfl)) (g 4) (congrArg (fun z => zMW x a q z nu _) (zG1 g 0)))
  · have c5 := zb_n0.mp c5
    refine lv_iload_n hx hb dX6_fill_8 rfl (lv_at hl 2 rfl) ?_
    refine lv_i2l hx hb dX6_fill_9 rfl ?_
    refine lv_lconst (v := 0) hx hb dX6_fill_10 (by decide) ?_
    refine lv_lconst (v := 1) hx hb dX6_fill_11 (by decide) ?_
    refine zcSwi (r := zb (0 ≤ w ∧ w ≤ 1)) hx hb hml hown hts hl.1 hK hE hA lkX6_48 (c_X6_inI x (zMW x a q g nu (zflat S)) w 0 1) ⟨Nat.le_of_ble_eq_true rfl, Nat.le_of_ble_eq_true rfl⟩ ⟨Nat.zero_le _, Nat.zero_le _⟩ hw rfl rfl (Nat.le_of_ble_eq_true rfl) dX6_fill_12 (fun H locs hw => ?_)
    have hw : zHw x A s.heap (zMW x a q g nu (zflat S)) H locs := hw
    refine lv_if_ne (tgt := 25) hx hb dX6_fill_15 (by decide) (fun c15 => ?_) (fun c15 => ?_)
    · have c15 := zb_n0.mp c15
      obtain ⟨i, hi8, hiN, rfl⟩ := zH_nat hI c5
      have hw1 : w = 0 ∨ w = 1 := z01 c15
      refine lv_aload_n hx hb dX6_fill_25 rfl (lv_at hl 0 rfl) ?_
      refine lv_iload_n hx hb dX6_fill_26 rfl (lv_at hl 1 rfl) ?_
      refine lv_iload_n hx hb dX6_fill_27 rfl (lv_at hl 2 rfl) ?_
      refine zcVwi (r := zb (S 6 i = 0 ∧ zPs S i w ≤ S 0 2)) hx hb hml hown hts hl.1 hK hE hA lkX6_129 (c_X6_mayFill x a q g nu S i w (by omega) hw1) ⟨Nat.le_of_ble_eq_true rfl, Nat.le_of_ble_eq_true rfl⟩ ⟨Nat.zero_le _, Nat.zero_le _⟩ hw 0 4 rfl rfl rfl rfl (Nat.le_of_ble_eq_true rfl) dX6_fill_28 (fun H locs hw => ?_)
      have hw : zHw x A s.heap (zMW x a q g nu (zflat S)) H locs := hw
      refine lv_if_eq (tgt := 43) hx hb dX6_fill_31 (by decide) (fun c31 => ?_) (fun c31 => ?_)
      · have c31 := zb_0.mp c31
        refine lv_aload_n hx hb dX6_fill_43 rfl (lv_at hl 0 rfl) ?_
        refine lv_ldc (v := (-1000000005)) hx hb hown (hts _ ckX6_135) dX6_fill_44 ?_
        refine zcVwi (r := (-1000000005)) hx hb hml hown hts hl.1 hK hE hA lkX6_64 (c_X6_finds x a q g nu (zflat S) (-1000000005) 4 (by decide) (by decide)) ⟨Nat.le_of_ble_eq_true rfl, Nat.le_of_ble_eq_true rfl⟩ ⟨Nat.zero_le _, Nat.zero_le _⟩ hw 0 4 rfl rfl rfl rfl (Nat.le_of_ble_eq_true rfl) dX6_fill_46 (fun H locs hw => ?_)
        have hw : zHw x A s.heap (zMW x a q (zU g 5 4 (g 5 4 + 1)) nu (zflat S)) H locs := hw
        exact zFG.iret hx hb hr hlocks hQ hw rfl dX6_fill_49 (zPM.mk (t := zm_fill S (g 5) (nI i) w) (r := (-1000000005)) (S' := S) (fd' := zFd (g 5) 4) (by unfold zm_fill; rw [if_pos ⟨c5, c15⟩, zc_nI (show i < 2147483648 by omega)]; first | rw [if_pos c31] | rw [if_neg c31]) (g 4) (congrArg (fun z => zMW x a q z nu _) (zG1 g 4)))
      · have c31 := zb_n0.mp c31
        refine lv_aload_n hx hb dX6_fill_34 rfl (lv_at hl 0 rfl) ?_
        refine lv_iload_n hx hb dX6_fill_35 rfl (lv_at hl 1 rfl) ?_
        refine lv_iload_n hx hb dX6_fill_36 rfl (lv_at hl 2 rfl) ?_
        refine zcVwi (r := zPs S i w) hx hb hml hown hts hl.1 hK hE hA lkX6_132 (c_X6_fills x a q g nu S i w (by omega) hw1) ⟨Nat.le_of_ble_eq_true rfl, Nat.le_of_ble_eq_true rfl⟩ ⟨Nat.zero_le _, Nat.zero_le _⟩ hw 0 4 rfl rfl rfl rfl (Nat.le_of_ble_eq_true rfl) dX6_fill_37 (fun H locs hw => ?_)
        have hw : zHw x A s.heap (zMW x a q g nu (zflat (zFi S i w))) H locs := hw
        refine lv_goto (tgt := 49) hx hb dX6_fill_40 (by decide) ?_
        exact zFG.iret hx hb hr hlocks hQ hw rfl dX6_fill_49 (zPM.mk (t := zm_fill S (g 5) (nI i) w) (r := zPs S i w) (S' := zFi S i w) (fd' := g 5) (by unfold zm_fill; rw [if_pos ⟨c5, c15⟩, zc_nI (show i < 2147483648 by omega)]; first | rw [if_pos c31] | rw [if_neg c31]) (g 4) (congrArg (fun z => zMW x a q z nu _) (zG0 g)))
    · have c15 := zb_0.mp c15
      refine lv_aload_n hx hb dX6_fill_18 rfl (lv_at hl 0 rfl) ?_
      refine lv_ldc (v := (-1000000001)) hx hb hown (hts _ ckX6_45) dX6_fill_19 ?_
      refine zcVwi (r := (-1000000001)) hx hb hml hown hts hl.1 hK hE hA lkX6_64 (c_X6_finds x a q g nu (zflat S) (-1000000001) 0 (by decide) (by decide)) ⟨Nat.le_of_ble_eq_true rfl, Nat.le_of_ble_eq_true rfl⟩ ⟨Nat.zero_le _, Nat.zero_le _⟩ hw 0 4 rfl rfl rfl rfl (Nat.le_of_ble_eq_true rfl) dX6_fill_21 (fun H locs hw => ?_)
      have hw : zHw x A s.heap (zMW x a q (zU g 5 0 (g 5 0 + 1)) nu (zflat S)) H locs := hw
      exact zFG.iret hx hb hr hlocks hQ hw rfl dX6_fill_24 (zPM.mk (t := zm_fill S (g 5) h w) (r := (-1000000001)) (S' := S) (fd' := zFd (g 5) 0) (by unfold zm_fill; first | (rw [if_neg (fun h => c15 h.2)]; rfl) | (rw [if_neg (fun h => c5 h.1)]; rfl)) (g 4) (congrArg (fun z => zMW x a q z nu _) (zG1 g 0)))

set_option maxHeartbeats 4000000 in
set_option maxRecDepth 100000 in
theorem c_X6_next (x : zX) (a : Nat → Nat) (q : Nat → Int32) (g : zT) (nu : Nat → Nat → Int64) (S : zT) (hI : zInv S) : zFG x mX6_next 6 [.ref (a 0)] (zMW x a q g nu (zflat S)) (zPM x a q g nu (zm_next S (g 5))) := by
  refine zFG.start RX6 cX6_next 2 (some .int) rfl rfl (by decide +kernel) (Nat.le_of_ble_eq_true rfl) ?_
  intro p e s m ar below meth c ls A Q hx hb hr hml hown hts hlocks hK hE hA hQ hl hw
  have hl : lv_has ls 2 [(0, .ref (a 0))] := hl
  have hw : zHw x A s.heap (zMW x a q g nu (zflat S)) s.heap [] := hw
  refine lv_aload_n hx hb dX6_next_0 rfl (lv_at hl 0 rfl) ?_
  refine zcVwi (r := zo (zNb S (zN S))) hx hb hml hown hts hl.1 hK hE hA lkX6_139 (c_X6_nextOne x a q g nu S hI) ⟨Nat.le_of_ble_eq_true rfl, Nat.le_of_ble_eq_true rfl⟩ ⟨Nat.zero_le _, Nat.zero_le _⟩ hw 0 4 rfl rfl rfl rfl (Nat.le_of_ble_eq_true rfl) dX6_next_1 (fun H locs hw => ?_)
  have hw : zHw x A s.heap (zMW x a q g nu (zflat S)) H locs := hw
  refine lv_istore_n (lv' := [(1, .int (zo (zNb S (zN S)))), (0, .ref (a 0))]) hx hb dX6_next_4 rfl hl (by decide) rfl (fun ls hl => ?_)
  rcases hbb : zNb S (zN S) with _ | b
  · have hl : lv_has ls 2 [(1, .int (-1)), (0, .ref (a 0))] := by
      rw [show (-1) = zo (zNb S (zN S)) from (by rw [hbb]; rfl)]; exact hl
    refine lv_iload_n hx hb dX6_next_5 rfl (lv_at hl 0 rfl) ?_
    refine lv_if_ge (tgt := 18) hx hb dX6_next_6 (by decide) (fun c6 => absurd c6 (by decide)) (fun c6 => ?_)
    refine lv_aload_n hx hb dX6_next_9 rfl (lv_at hl 1 rfl) ?_
    refine lv_ldc (v := (-1000000004)) hx hb hown (hts _ ckX6_142) dX6_next_10 ?_
    refine zcVwi (r := (-1000000004)) hx hb hml hown hts hl.1 hK hE hA lkX6_64 (c_X6_finds x a q g nu (zflat S) (-1000000004) 3 (by decide) (by decide)) ⟨Nat.le_of_ble_eq_true rfl, Nat.le_of_ble_eq_true rfl⟩ ⟨Nat.zero_le _, Nat.zero_le _⟩ hw 0 4 rfl rfl rfl rfl (Nat.le_of_ble_eq_true rfl) dX6_next_12 (fun H locs hw => ?_)
    have hw : zHw x A s.heap (zMW x a q (zU g 5 3 (g 5 3 + 1)) nu (zflat S)) H locs := hw
    refine lv_goto (tgt := 19) hx hb dX6_next_15 (by decide) ?_
    exact zFG.iret hx hb hr hlocks hQ hw rfl dX6_next_19 (zPM.mk (t := zm_next S (g 5)) (r := (-1000000004)) (S' := S) (fd' := zFd (g 5) 3) (by unfold zm_next; rw [hbb]) (g 4) (congrArg (fun z => zMW x a q z nu _) (zG1 g 3)))
  · have hbk := (zNb_lt S _ b hbb).1
    have hb8 := zN_le hI
    have hl : lv_has ls 2 [(1, .int (nI b)), (0, .ref (a 0))] := by
      rw [show nI b = zo (zNb S (zN S)) from (by rw [hbb]; rfl)]; exact hl
    refine lv_iload_n hx hb dX6_next_5 rfl (lv_at hl 0 rfl) ?_
    refine lv_if_ge (tgt := 18) hx hb dX6_next_6 (by decide) (fun c6 => ?_) (fun c6 => absurd (nI_pos' (by omega)) c6)
    refine lv_iload_n hx hb dX6_next_18 rfl (lv_at hl 0 rfl) ?_
    exact zFG.iret hx hb hr hlocks hQ hw rfl dX6_next_19 (zPM.mk (t := zm_next S (g 5)) (r := nI b) (S' := S) (fd' := g 5) (by unfold zm_next; rw [hbb]) (g 4) (congrArg (fun z => zMW x a q z nu _) (zG0 g)))

set_option maxHeartbeats 4000000 in
set_option maxRecDepth 100000 in
theorem c_X6_weeks (x : zX) (a : Nat → Nat) (q : Nat → Int32) (g : zT) (nu : Nat → Nat → Int64) (S : zT) (n : Int32) (hI : zInv S) : zFG x mX6_weeks 8 [.ref (a 0), .int n] (zMW x a q g nu (zflat S)) (zPM x a q g nu (zm_weeks S (g 5) n)) := by
  refine zFG.start RX6 cX6_weeks 2 (some .int) rfl rfl (by decide +kernel) (Nat.le_of_ble_eq_true rfl) ?_
  intro p e s m ar below meth c ls A Q hx hb hr hml hown hts hlocks hK hE hA hQ hl hw
  have hl : lv_has ls 2 [(0, .ref (a 0)), (1, .int n)] := hl
  have hw : zHw x A s.heap (zMW x a q g nu (zflat S)) s.heap [] := hw
  refine lv_iload_n hx hb dX6_weeks_0 rfl (lv_at hl 1 rfl) ?_
  refine lv_i2l hx hb dX6_weeks_1 rfl ?_
  refine lv_lconst (v := 1) hx hb dX6_weeks_2 (by decide) ?_
  refine lv_ldc2 (v := 60) hx hb hown (hts _ ckX6_150) dX6_weeks_3 ?_
  refine zcSwi (r := zb (1 ≤ n ∧ n ≤ 60)) hx hb hml hown hts hl.1 hK hE hA lkX6_48 (c_X6_inI x (zMW x a q g nu (zflat S)) n 1 60) ⟨Nat.le_of_ble_eq_true rfl, Nat.le_of_ble_eq_true rfl⟩ ⟨Nat.zero_le _, Nat.zero_le _⟩ hw rfl rfl (Nat.le_of_ble_eq_true rfl) dX6_weeks_6 (fun H locs hw => ?_)
  have hw : zHw x A s.heap (zMW x a q g nu (zflat S)) H locs := hw
  refine lv_if_ne (tgt := 19) hx hb dX6_weeks_9 (by decide) (fun c9 => ?_) (fun c9 => ?_)
  · have c9 := zb_n0.mp c9
    refine lv_aload_n hx hb dX6_weeks_19 rfl (lv_at hl 0 rfl) ?_
    refine gfX6_7 hx hb hown hts hK hw 0 rfl rfl dX6_weeks_20 ?_
    refine lv_iconst (v := 1) hx hb dX6_weeks_23 (by decide) ?_
    refine zial2 (v := S 0 1) hx hb hK hw 1 0 1 rfl rfl rfl (by decide) (by decide) dX6_weeks_24 rfl ?_
    refine lv_iload_n hx hb dX6_weeks_25 rfl (lv_at hl 1 rfl) ?_
    refine lv_iadd hx hb dX6_weeks_26 ?_
    refine lv_sipush (v := 9999) hx hb dX6_weeks_27 (by decide) ?_
    refine lv_icmp_le (tgt := 40) hx hb dX6_weeks_30 (by decide) (fun c30 => ?_) (fun c30 => ?_)
    · obtain ⟨j, hj, rfl⟩ := zBw_nat (hi := 60) c9 (by decide) (by decide)
      refine lv_aload_n hx hb dX6_weeks_40 rfl (lv_at hl 0 rfl) ?_
      refine lv_iload_n hx hb dX6_weeks_41 rfl (lv_at hl 1 rfl) ?_
      refine zcVwv hx hb hml hown hts hl.1 hK hE hA lkX6_152 (c_X6_weeksGo x a q g nu S j hI (by omega)) ⟨Nat.le_of_ble_eq_true rfl, Nat.le_of_ble_eq_true rfl⟩ ⟨Nat.zero_le _, Nat.zero_le _⟩ hw 0 4 rfl rfl rfl rfl (Nat.le_of_ble_eq_true rfl) dX6_weeks_42 (fun H locs hw => ?_)
      have hw : zHw x A s.heap (zMW x a q g nu (zflat (zGo j S))) H locs := hw
      refine lv_aload_n hx hb dX6_weeks_45 rfl (lv_at hl 0 rfl) ?_
      refine lv_iconst (v := 3) hx hb dX6_weeks_46 (by decide) ?_
      refine lv_iconst (v := 0) hx hb dX6_weeks_47 (by decide) ?_
      refine zcVwi (r := zBi (zopn (zGo j S)) (zN (zGo j S))) hx hb hml hown hts hl.1 hK hE hA lkX6_77 (c_X6_thoseAs x a q g nu (zGo j S) 3 0 (zGo_ok j hI).1 (by decide)) ⟨Nat.le_of_ble_eq_true rfl, Nat.le_of_ble_eq_true rfl⟩ ⟨Nat.zero_le _, Nat.zero_le _⟩ hw 0 4 rfl rfl rfl rfl (Nat.le_of_ble_eq_true rfl) dX6_weeks_48 (fun H locs hw => ?_)
      have hw : zHw x A s.heap (zMW x a q g nu (zflat (zGo j S))) H locs := hw
      exact zFG.iret hx hb hr hlocks hQ hw rfl dX6_weeks_51 (zPM.mk (t := zm_weeks S (g 5) (nI j)) (r := zBi (zopn (zGo j S)) (zN (zGo j S))) (S' := zGo j S) (fd' := g 5) (by unfold zm_weeks; rw [if_pos c9, if_neg (Int32.not_lt.mpr c30), zc_nI (show j < 2147483648 by omega)]) (g 4) (congrArg (fun z => zMW x a q z nu _) (zG0 g)))
    · refine lv_aload_n hx hb dX6_weeks_33 rfl (lv_at hl 0 rfl) ?_
      refine lv_ldc (v := (-1000000005)) hx hb hown (hts _ ckX6_135) dX6_weeks_34 ?_
      refine zcVwi (r := (-1000000005)) hx hb hml hown hts hl.1 hK hE hA lkX6_64 (c_X6_finds x a q g nu (zflat S) (-1000000005) 4 (by decide) (by decide)) ⟨Nat.le_of_ble_eq_true rfl, Nat.le_of_ble_eq_true rfl⟩ ⟨Nat.zero_le _, Nat.zero_le _⟩ hw 0 4 rfl rfl rfl rfl (Nat.le_of_ble_eq_true rfl) dX6_weeks_36 (fun H locs hw => ?_)
      have hw : zHw x A s.heap (zMW x a q (zU g 5 4 (g 5 4 + 1)) nu (zflat S)) H locs := hw
      exact zFG.iret hx hb hr hlocks hQ hw rfl dX6_weeks_39 (zPM.mk (t := zm_weeks S (g 5) n) (r := (-1000000005)) (S' := S) (fd' := zFd (g 5) 4) (by unfold zm_weeks; first | (rw [if_pos c9, if_pos (Int32.not_le.mp c30)]; done) | (rw [if_neg c9]; rfl)) (g 4) (congrArg (fun z => zMW x a q z nu _) (zG1 g 4)))
  · have c9 := zb_0.mp c9
    refine lv_aload_n hx hb dX6_weeks_12 rfl (lv_at hl 0 rfl) ?_
    refine lv_ldc (v := (-1000000001)) hx hb hown (hts _ ckX6_45) dX6_weeks_13 ?_
    refine zcVwi (r := (-1000000001)) hx hb hml hown hts hl.1 hK hE hA lkX6_64 (c_X6_finds x a q g nu (zflat S) (-1000000001) 0 (by decide) (by decide)) ⟨Nat.le_of_ble_eq_true rfl, Nat.le_of_ble_eq_true rfl⟩ ⟨Nat.zero_le _, Nat.zero_le _⟩ hw 0 4 rfl rfl rfl rfl (Nat.le_of_ble_eq_true rfl) dX6_weeks_15 (fun H locs hw => ?_)
    have hw : zHw x A s.heap (zMW x a q (zU g 5 0 (g 5 0 + 1)) nu (zflat S)) H locs := hw
    exact zFG.iret hx hb hr hlocks hQ hw rfl dX6_weeks_18 (zPM.mk (t := zm_weeks S (g 5) n) (r := (-1000000001)) (S' := S) (fd' := zFd (g 5) 0) (by unfold zm_weeks; first | (rw [if_pos c9, if_pos (Int32.not_le.mp c30)]; done) | (rw [if_neg c9]; rfl)) (g 4) (congrArg (fun z => zMW x a q z nu _) (zG1 g 0)))
