set_option maxHeartbeats 4000000 in
set_option maxRecDepth 100000 in
theorem c_X6_now (x : zX) (a : Nat → Nat) (q : Nat → Int32) (g : zT) (nu : Nat → Nat → Int64) (S : zT) (w : Int32) (hI : zInv S) : zFG x mX6_now 4 [.ref (a 0), .int w] (zMW x a q g nu (zflat S)) (zPM x a q g nu (zm_now S (g 5) w)) := by
  refine zFG.start RX6 cX6_now 2 (some .int) rfl rfl (by decide +kernel) (Nat.le_of_ble_eq_true rfl) ?_
  intro p e s m ar below meth c ls A Q hx hb hr hml hown hts hlocks hK hE hA hQ hl hw
  have hl : lv_has ls 2 [(0, .ref (a 0)), (1, .int w)] := hl
  have hw : zHw x A s.heap (zMW x a q g nu (zflat S)) s.heap [] := hw
  refine lv_iload_n hx hb dX6_now_0 rfl (lv_at hl 1 rfl) ?_
  rcases Decidable.em (w = 0) with k0 | k0
  · refine W.eq (g2 := F0 m 1 ls (.int 0 :: [])) (by rw [k0]) ?_
    refine lv_tableIn (off := 47) (tgt := 48) hx hb dX6_now_1 (by decide) (by decide) (by decide) (by decide) ?_
    refine lv_aload_n hx hb dX6_now_48 rfl (lv_at hl 0 rfl) ?_
    refine gfX6_7 hx hb hown hts hK hw 0 rfl rfl dX6_now_49 ?_
    refine lv_iconst (v := 1) hx hb dX6_now_52 (by decide) ?_
    refine zial2 (v := S 0 1) hx hb hK hw 1 0 1 rfl rfl rfl (by decide) (by decide) dX6_now_53 rfl ?_
    exact zFG.iret hx hb hr hlocks hQ hw rfl dX6_now_54 (zPM.mk (t := zm_now S (g 5) w) (r := S 0 1) (S' := S) (fd' := g 5) (by subst k0; rfl) (g 4) (congrArg (fun z => zMW x a q z nu _) (zG0 g)))
  rcases Decidable.em (w = 1) with k1 | k1
  · refine W.eq (g2 := F0 m 1 ls (.int 1 :: [])) (by rw [k1]) ?_
    refine lv_tableIn (off := 54) (tgt := 55) hx hb dX6_now_1 (by decide) (by decide) (by decide) (by decide) ?_
    refine lv_aload_n hx hb dX6_now_55 rfl (lv_at hl 0 rfl) ?_
    refine gfX6_7 hx hb hown hts hK hw 0 rfl rfl dX6_now_56 ?_
    refine lv_iconst (v := 1) hx hb dX6_now_59 (by decide) ?_
    refine lv_iload_n hx hb dX6_now_60 rfl (lv_at hl 1 rfl) ?_
    refine lv_iadd hx hb dX6_now_61 ?_
    refine zial2 (v := S 0 2) hx hb hK hw 1 0 2 rfl rfl (by rw [k1]; rfl) (by decide) (by decide) dX6_now_62 rfl ?_
    exact zFG.iret hx hb hr hlocks hQ hw rfl dX6_now_63 (zPM.mk (t := zm_now S (g 5) w) (r := S 0 2) (S' := S) (fd' := g 5) (by subst k1; rfl) (g 4) (congrArg (fun z => zMW x a q z nu _) (zG0 g)))
  rcases Decidable.em (w = 2) with k2 | k2
  · refine W.eq (g2 := F0 m 1 ls (.int 2 :: [])) (by rw [k2]) ?_
    refine lv_tableIn (off := 54) (tgt := 55) hx hb dX6_now_1 (by decide) (by decide) (by decide) (by decide) ?_
    refine lv_aload_n hx hb dX6_now_55 rfl (lv_at hl 0 rfl) ?_
    refine gfX6_7 hx hb hown hts hK hw 0 rfl rfl dX6_now_56 ?_
    refine lv_iconst (v := 1) hx hb dX6_now_59 (by decide) ?_
    refine lv_iload_n hx hb dX6_now_60 rfl (lv_at hl 1 rfl) ?_
    refine lv_iadd hx hb dX6_now_61 ?_
    refine zial2 (v := S 0 3) hx hb hK hw 1 0 3 rfl rfl (by rw [k2]; rfl) (by decide) (by decide) dX6_now_62 rfl ?_
    exact zFG.iret hx hb hr hlocks hQ hw rfl dX6_now_63 (zPM.mk (t := zm_now S (g 5) w) (r := S 0 3) (S' := S) (fd' := g 5) (by subst k2; rfl) (g 4) (congrArg (fun z => zMW x a q z nu _) (zG0 g)))
  rcases Decidable.em (w = 3) with k3 | k3
  · refine W.eq (g2 := F0 m 1 ls (.int 3 :: [])) (by rw [k3]) ?_
    refine lv_tableIn (off := 54) (tgt := 55) hx hb dX6_now_1 (by decide) (by decide) (by decide) (by decide) ?_
    refine lv_aload_n hx hb dX6_now_55 rfl (lv_at hl 0 rfl) ?_
    refine gfX6_7 hx hb hown hts hK hw 0 rfl rfl dX6_now_56 ?_
    refine lv_iconst (v := 1) hx hb dX6_now_59 (by decide) ?_
    refine lv_iload_n hx hb dX6_now_60 rfl (lv_at hl 1 rfl) ?_
    refine lv_iadd hx hb dX6_now_61 ?_
    refine zial2 (v := S 0 4) hx hb hK hw 1 0 4 rfl rfl (by rw [k3]; rfl) (by decide) (by decide) dX6_now_62 rfl ?_
    exact zFG.iret hx hb hr hlocks hQ hw rfl dX6_now_63 (zPM.mk (t := zm_now S (g 5) w) (r := S 0 4) (S' := S) (fd' := g 5) (by subst k3; rfl) (g 4) (congrArg (fun z => zMW x a q z nu _) (zG0 g)))
  rcases Decidable.em (w = 4) with k4 | k4
  · refine W.eq (g2 := F0 m 1 ls (.int 4 :: [])) (by rw [k4]) ?_
    refine lv_tableIn (off := 54) (tgt := 55) hx hb dX6_now_1 (by decide) (by decide) (by decide) (by decide) ?_
    refine lv_aload_n hx hb dX6_now_55 rfl (lv_at hl 0 rfl) ?_
    refine gfX6_7 hx hb hown hts hK hw 0 rfl rfl dX6_now_56 ?_
    refine lv_iconst (v := 1) hx hb dX6_now_59 (by decide) ?_
    refine lv_iload_n hx hb dX6_now_60 rfl (lv_at hl 1 rfl) ?_
    refine lv_iadd hx hb dX6_now_61 ?_
    refine zial2 (v := S 0 5) hx hb hK hw 1 0 5 rfl rfl (by rw [k4]; rfl) (by decide) (by decide) dX6_now_62 rfl ?_
    exact zFG.iret hx hb hr hlocks hQ hw rfl dX6_now_63 (zPM.mk (t := zm_now S (g 5) w) (r := S 0 5) (S' := S) (fd' := g 5) (by subst k4; rfl) (g 4) (congrArg (fun z => zMW x a q z nu _) (zG0 g)))
  rcases Decidable.em (w = 5) with k5 | k5
  · refine W.eq (g2 := F0 m 1 ls (.int 5 :: [])) (by rw [k5]) ?_
    refine lv_tableIn (off := 54) (tgt := 55) hx hb dX6_now_1 (by decide) (by decide) (by decide) (by decide) ?_
    refine lv_aload_n hx hb dX6_now_55 rfl (lv_at hl 0 rfl) ?_
    refine gfX6_7 hx hb hown hts hK hw 0 rfl rfl dX6_now_56 ?_
    refine lv_iconst (v := 1) hx hb dX6_now_59 (by decide) ?_
    refine lv_iload_n hx hb dX6_now_60 rfl (lv_at hl 1 rfl) ?_
    refine lv_iadd hx hb dX6_now_61 ?_
    refine zial2 (v := S 0 6) hx hb hK hw 1 0 6 rfl rfl (by rw [k5]; rfl) (by decide) (by decide) dX6_now_62 rfl ?_
    exact zFG.iret hx hb hr hlocks hQ hw rfl dX6_now_63 (zPM.mk (t := zm_now S (g 5) w) (r := S 0 6) (S' := S) (fd' := g 5) (by subst k5; rfl) (g 4) (congrArg (fun z => zMW x a q z nu _) (zG0 g)))
  rcases Decidable.em (w = 6) with k6 | k6
  · refine W.eq (g2 := F0 m 1 ls (.int 6 :: [])) (by rw [k6]) ?_
    refine lv_tableIn (off := 63) (tgt := 64) hx hb dX6_now_1 (by decide) (by decide) (by decide) (by decide) ?_
    refine lv_aload_n hx hb dX6_now_64 rfl (lv_at hl 0 rfl) ?_
    refine zcVwi (r := zb (zFr (zWo S))) hx hb hml hown hts hl.1 hK hE hA lkX6_91 (c_X6_isFrost x a q g nu S ) ⟨Nat.le_of_ble_eq_true rfl, Nat.le_of_ble_eq_true rfl⟩ ⟨Nat.zero_le _, Nat.zero_le _⟩ hw 0 4 rfl rfl rfl rfl (Nat.le_of_ble_eq_true rfl) dX6_now_65 (fun H locs hw => ?_)
    have hw : zHw x A s.heap (zMW x a q g nu (zflat S)) H locs := hw
    refine lv_if_eq (tgt := 75) hx hb dX6_now_68 (by decide) (fun c68 => ?_) (fun c68 => ?_)
    · have c68 := zb_0.mp c68
      refine lv_iconst (v := 0) hx hb dX6_now_75 (by decide) ?_
      exact zFG.iret hx hb hr hlocks hQ hw rfl dX6_now_76 (zPM.mk (t := zm_now S (g 5) w) (r := 0) (S' := S) (fd' := g 5) (by subst k6; unfold zm_now; rw [if_neg (by decide), if_pos rfl]; first | rw [zb_t c68] | rw [zb_f c68]) (g 4) (congrArg (fun z => zMW x a q z nu _) (zG0 g)))
    · have c68 := zb_n0.mp c68
      refine lv_iconst (v := 1) hx hb dX6_now_71 (by decide) ?_
      refine lv_goto (tgt := 76) hx hb dX6_now_72 (by decide) ?_
      exact zFG.iret hx hb hr hlocks hQ hw rfl dX6_now_76 (zPM.mk (t := zm_now S (g 5) w) (r := 1) (S' := S) (fd' := g 5) (by subst k6; unfold zm_now; rw [if_neg (by decide), if_pos rfl]; first | rw [zb_t c68] | rw [zb_f c68]) (g 4) (congrArg (fun z => zMW x a q z nu _) (zG0 g)))
  rcases Decidable.em (w = 7) with k7 | k7
  · refine W.eq (g2 := F0 m 1 ls (.int 7 :: [])) (by rw [k7]) ?_
    refine lv_tableIn (off := 76) (tgt := 77) hx hb dX6_now_1 (by decide) (by decide) (by decide) (by decide) ?_
    refine lv_aload_n hx hb dX6_now_77 rfl (lv_at hl 0 rfl) ?_
    refine zcVwi (r := zWr S) hx hb hml hown hts hl.1 hK hE hA lkX6_158 (c_X6_worseNow x a q g nu S hI) ⟨Nat.le_of_ble_eq_true rfl, Nat.le_of_ble_eq_true rfl⟩ ⟨Nat.zero_le _, Nat.zero_le _⟩ hw 0 4 rfl rfl rfl rfl (Nat.le_of_ble_eq_true rfl) dX6_now_78 (fun H locs hw => ?_)
    have hw : zHw x A s.heap (zMW x a q g nu (zflat S)) H locs := hw
    exact zFG.iret hx hb hr hlocks hQ hw rfl dX6_now_81 (zPM.mk (t := zm_now S (g 5) w) (r := zWr S) (S' := S) (fd' := g 5) (by subst k7; unfold zm_now; rw [if_neg (by decide), if_neg (by decide), if_pos rfl]) (g 4) (congrArg (fun z => zMW x a q z nu _) (zG0 g)))
  refine lv_tableOut (tgt := 82) hx hb dX6_now_1 (zout8 k0 k1 k2 k3 k4 k5 k6 k7) (by decide) ?_
  refine lv_aload_n hx hb dX6_now_82 rfl (lv_at hl 0 rfl) ?_
  refine lv_ldc (v := (-1000000001)) hx hb hown (hts _ ckX6_45) dX6_now_83 ?_
  refine zcVwi (r := (-1000000001)) hx hb hml hown hts hl.1 hK hE hA lkX6_64 (c_X6_finds x a q g nu (zflat S) (-1000000001) 0 (by decide) (by decide)) ⟨Nat.le_of_ble_eq_true rfl, Nat.le_of_ble_eq_true rfl⟩ ⟨Nat.zero_le _, Nat.zero_le _⟩ hw 0 4 rfl rfl rfl rfl (Nat.le_of_ble_eq_true rfl) dX6_now_85 (fun H locs hw => ?_)
  have hw : zHw x A s.heap (zMW x a q (zU g 5 0 (g 5 0 + 1)) nu (zflat S)) H locs := hw
  exact zFG.iret hx hb hr hlocks hQ hw rfl dX6_now_88 (zPM.mk (t := zm_now S (g 5) w) (r := (-1000000001)) (S' := S) (fd' := zFd (g 5) 0) (by unfold zm_now; rw [if_neg (fun h => zno05 k0 k1 k2 k3 k4 k5 h), if_neg k6, if_neg k7]; rfl) (g 4) (congrArg (fun z => zMW x a q z nu _) (zG1 g 0)))

set_option maxHeartbeats 4000000 in
set_option maxRecDepth 100000 in
theorem c_X6_on (x : zX) (a : Nat → Nat) (q : Nat → Int32) (g : zT) (nu : Nat → Nat → Int64) (S : zT) (h n w : Int32) (hI : zInv S) : zFG x mX6_on 8 [.ref (a 0), .int h, .int n, .int w] (zMW x a q g nu (zflat S)) (zPM x a q g nu (zm_on S (g 5) h n w)) := by
  refine zFG.start RX6 cX6_on 4 (some .int) rfl rfl (by decide +kernel) (Nat.le_of_ble_eq_true rfl) ?_
  intro p e s m ar below meth c ls A Q hx hb hr hml hown hts hlocks hK hE hA hQ hl hw
  have hl : lv_has ls 4 [(0, .ref (a 0)), (1, .int h), (2, .int n), (3, .int w)] := hl
  have hw : zHw x A s.heap (zMW x a q g nu (zflat S)) s.heap [] := hw
  refine lv_aload_n hx hb dX6_on_0 rfl (lv_at hl 0 rfl) ?_
  refine lv_iload_n hx hb dX6_on_1 rfl (lv_at hl 1 rfl) ?_
  refine zcVwi (r := zb (0 ≤ h ∧ h < S 0 0)) hx hb hml hown hts hl.1 hK hE hA lkX6_98 (c_X6_isHole x a q g nu S h hI) ⟨Nat.le_of_ble_eq_true rfl, Nat.le_of_ble_eq_true rfl⟩ ⟨Nat.zero_le _, Nat.zero_le _⟩ hw 0 4 rfl rfl rfl rfl (Nat.le_of_ble_eq_true rfl) dX6_on_2 (fun H locs hw => ?_)
  have hw : zHw x A s.heap (zMW x a q g nu (zflat S)) H locs := hw
  refine lv_if_eq (tgt := 28) hx hb dX6_on_5 (by decide) (fun c5 => ?_) (fun c5 => ?_)
  · have c5 := zb_0.mp c5
    refine lv_aload_n hx hb dX6_on_28 rfl (lv_at hl 0 rfl) ?_
    refine lv_ldc (v := (-1000000001)) hx hb hown (hts _ ckX6_45) dX6_on_29 ?_
    refine zcVwi (r := (-1000000001)) hx hb hml hown hts hl.1 hK hE hA lkX6_64 (c_X6_finds x a q g nu (zflat S) (-1000000001) 0 (by decide) (by decide)) ⟨Nat.le_of_ble_eq_true rfl, Nat.le_of_ble_eq_true rfl⟩ ⟨Nat.zero_le _, Nat.zero_le _⟩ hw 0 4 rfl rfl rfl rfl (Nat.le_of_ble_eq_true rfl) dX6_on_31 (fun H locs hw => ?_)
    have hw : zHw x A s.heap (zMW x a q (zU g 5 0 (g 5 0 + 1)) nu (zflat S)) H locs := hw
    exact zFG.iret hx hb hr hlocks hQ hw rfl dX6_on_34 (zPM.mk (t := zm_on S (g 5) h n w) (r := (-1000000001)) (S' := S) (fd' := zFd (g 5) 0) (by unfold zm_on; first | (rw [if_neg (fun h => c25 h.2.2)]; rfl) | (rw [if_neg (fun h => c15 h.2.1)]; rfl) | (rw [if_neg (fun h => c5 h.1)]; rfl)) (g 4) (congrArg (fun z => zMW x a q z nu _) (zG1 g 0)))
  · have c5 := zb_n0.mp c5
    refine lv_iload_n hx hb dX6_on_8 rfl (lv_at hl 2 rfl) ?_
    refine lv_iconst (v := 0) hx hb dX6_on_9 (by decide) ?_
    refine lv_bipush (v := 104) hx hb dX6_on_10 (by decide) ?_
    refine zcSwi (r := zb (0 ≤ n ∧ n ≤ 104)) hx hb hml hown hts hl.1 hK hE hA lkX6_161 (c_X6_isFar x (zMW x a q g nu (zflat S)) n 0 104) ⟨Nat.le_of_ble_eq_true rfl, Nat.le_of_ble_eq_true rfl⟩ ⟨Nat.zero_le _, Nat.zero_le _⟩ hw rfl rfl (Nat.le_of_ble_eq_true rfl) dX6_on_12 (fun H locs hw => ?_)
    have hw : zHw x A s.heap (zMW x a q g nu (zflat S)) H locs := hw
    refine lv_if_eq (tgt := 28) hx hb dX6_on_15 (by decide) (fun c15 => ?_) (fun c15 => ?_)
    · have c15 := zb_0.mp c15
      refine lv_aload_n hx hb dX6_on_28 rfl (lv_at hl 0 rfl) ?_
      refine lv_ldc (v := (-1000000001)) hx hb hown (hts _ ckX6_45) dX6_on_29 ?_
      refine zcVwi (r := (-1000000001)) hx hb hml hown hts hl.1 hK hE hA lkX6_64 (c_X6_finds x a q g nu (zflat S) (-1000000001) 0 (by decide) (by decide)) ⟨Nat.le_of_ble_eq_true rfl, Nat.le_of_ble_eq_true rfl⟩ ⟨Nat.zero_le _, Nat.zero_le _⟩ hw 0 4 rfl rfl rfl rfl (Nat.le_of_ble_eq_true rfl) dX6_on_31 (fun H locs hw => ?_)
      have hw : zHw x A s.heap (zMW x a q (zU g 5 0 (g 5 0 + 1)) nu (zflat S)) H locs := hw
      exact zFG.iret hx hb hr hlocks hQ hw rfl dX6_on_34 (zPM.mk (t := zm_on S (g 5) h n w) (r := (-1000000001)) (S' := S) (fd' := zFd (g 5) 0) (by unfold zm_on; first | (rw [if_neg (fun h => c25 h.2.2)]; rfl) | (rw [if_neg (fun h => c15 h.2.1)]; rfl) | (rw [if_neg (fun h => c5 h.1)]; rfl)) (g 4) (congrArg (fun z => zMW x a q z nu _) (zG1 g 0)))
    · have c15 := zb_n0.mp c15
      refine lv_iload_n hx hb dX6_on_18 rfl (lv_at hl 3 rfl) ?_
      refine lv_i2l hx hb dX6_on_19 rfl ?_
      refine lv_lconst (v := 0) hx hb dX6_on_20 (by decide) ?_
      refine lv_lconst (v := 1) hx hb dX6_on_21 (by decide) ?_
      refine zcSwi (r := zb (0 ≤ w ∧ w ≤ 1)) hx hb hml hown hts hl.1 hK hE hA lkX6_48 (c_X6_inI x (zMW x a q g nu (zflat S)) w 0 1) ⟨Nat.le_of_ble_eq_true rfl, Nat.le_of_ble_eq_true rfl⟩ ⟨Nat.zero_le _, Nat.zero_le _⟩ hw rfl rfl (Nat.le_of_ble_eq_true rfl) dX6_on_22 (fun H locs hw => ?_)
      have hw : zHw x A s.heap (zMW x a q g nu (zflat S)) H locs := hw
      refine lv_if_ne (tgt := 35) hx hb dX6_on_25 (by decide) (fun c25 => ?_) (fun c25 => ?_)
      · have c25 := zb_n0.mp c25
        obtain ⟨i, hi8, hiN, rfl⟩ := zH_nat hI c5
        obtain ⟨j, hj, rfl⟩ := zBw_nat (hi := 104) c15 (by decide) (by decide)
        refine lv_aload_n hx hb dX6_on_35 rfl (lv_at hl 0 rfl) ?_
        refine zcVwv hx hb hml hown hts hl.1 hK hE hA lkX6_165 (c_X6_laysAside x a q g nu (zflat S)) ⟨Nat.le_of_ble_eq_true rfl, Nat.le_of_ble_eq_true rfl⟩ ⟨Nat.zero_le _, Nat.zero_le _⟩ hw 0 4 rfl rfl rfl rfl (Nat.le_of_ble_eq_true rfl) dX6_on_36 (fun H locs hw => ?_)
        have hw : zHw x A s.heap (zMW x a q (zV g 4 (zflat S)) nu (zflat S)) H locs := hw
        refine lv_aload_n hx hb dX6_on_39 rfl (lv_at hl 0 rfl) ?_
        refine lv_iload_n hx hb dX6_on_40 rfl (lv_at hl 2 rfl) ?_
        refine zcVwv hx hb hml hown hts hl.1 hK hE hA lkX6_152 (c_X6_weeksGo x a q (zV g 4 (zflat S)) nu S j hI (by omega)) ⟨Nat.le_of_ble_eq_true rfl, Nat.le_of_ble_eq_true rfl⟩ ⟨Nat.zero_le _, Nat.zero_le _⟩ hw 0 4 rfl rfl rfl rfl (Nat.le_of_ble_eq_true rfl) dX6_on_41 (fun H locs hw => ?_)
        have hw : zHw x A s.heap (zMW x a q (zV g 4 (zflat S)) nu (zflat (zGo j S))) H locs := hw
        refine lv_aload_n hx hb dX6_on_44 rfl (lv_at hl 0 rfl) ?_
        refine lv_aload_n hx hb dX6_on_45 rfl (lv_at hl 0 rfl) ?_
        refine lv_iload_n hx hb dX6_on_46 rfl (lv_at hl 1 rfl) ?_
        refine lv_iload_n hx hb dX6_on_47 rfl (lv_at hl 3 rfl) ?_
        refine lv_if_ne (tgt := 55) hx hb dX6_on_48 (by decide) (fun c48 => ?_) (fun c48 => ?_)
        · refine lv_iconst (v := 3) hx hb dX6_on_55 (by decide) ?_
          refine zcVwi (r := (zGo j S) 6 i) hx hb hml hown hts hl.1 hK hE hA lkX6_74 (c_X6_its x a q (zV g 4 (zflat S)) nu (zGo j S) i 3 (by omega) (by omega)) ⟨Nat.le_of_ble_eq_true rfl, Nat.le_of_ble_eq_true rfl⟩ ⟨Nat.zero_le _, Nat.zero_le _⟩ hw 0 4 rfl rfl rfl rfl (Nat.le_of_ble_eq_true rfl) dX6_on_56 (fun H locs hw => ?_)
          have hw : zHw x A s.heap (zMW x a q (zV g 4 (zflat S)) nu (zflat (zGo j S))) H locs := hw
          refine zcVwi (r := (zGo j S) 6 i) hx hb hml hown hts hl.1 hK hE hA lkX6_168 (c_X6_takesBack x a q (zV g 4 (zflat S)) nu (zflat (zGo j S)) ((zGo j S) 6 i)) ⟨Nat.le_of_ble_eq_true rfl, Nat.le_of_ble_eq_true rfl⟩ ⟨Nat.zero_le _, Nat.zero_le _⟩ hw 0 4 rfl rfl rfl rfl (Nat.le_of_ble_eq_true rfl) dX6_on_59 (fun H locs hw => ?_)
          have hw : zHw x A s.heap (zMW x a q (zV g 4 (zflat S)) nu (zflat S)) H locs := hw
          exact zFG.iret hx hb hr hlocks hQ hw rfl dX6_on_62 (zPM.mk (t := zm_on S (g 5) (nI i) (nI j) w) (r := (zGo j S) 6 i) (S' := S) (fd' := g 5) (by unfold zm_on; rw [if_pos ⟨c5, c15, c25⟩, zc_nI (show j < 2147483648 by omega), zc_nI (show i < 2147483648 by omega)]; first | rw [if_pos c48] | rw [if_neg c48]) (zflat S) (congrArg (fun z => zMW x a q z nu _) (zG2 g (zflat S))))
        · refine lv_iconst (v := 2) hx hb dX6_on_51 (by decide) ?_
          refine lv_goto (tgt := 56) hx hb dX6_on_52 (by decide) ?_
          refine zcVwi (r := (zGo j S) 5 i) hx hb hml hown hts hl.1 hK hE hA lkX6_74 (c_X6_its x a q (zV g 4 (zflat S)) nu (zGo j S) i 2 (by omega) (by omega)) ⟨Nat.le_of_ble_eq_true rfl, Nat.le_of_ble_eq_true rfl⟩ ⟨Nat.zero_le _, Nat.zero_le _⟩ hw 0 4 rfl rfl rfl rfl (Nat.le_of_ble_eq_true rfl) dX6_on_56 (fun H locs hw => ?_)
          have hw : zHw x A s.heap (zMW x a q (zV g 4 (zflat S)) nu (zflat (zGo j S))) H locs := hw
          refine zcVwi (r := (zGo j S) 5 i) hx hb hml hown hts hl.1 hK hE hA lkX6_168 (c_X6_takesBack x a q (zV g 4 (zflat S)) nu (zflat (zGo j S)) ((zGo j S) 5 i)) ⟨Nat.le_of_ble_eq_true rfl, Nat.le_of_ble_eq_true rfl⟩ ⟨Nat.zero_le _, Nat.zero_le _⟩ hw 0 4 rfl rfl rfl rfl (Nat.le_of_ble_eq_true rfl) dX6_on_59 (fun H locs hw => ?_)
          have hw : zHw x A s.heap (zMW x a q (zV g 4 (zflat S)) nu (zflat S)) H locs := hw
          exact zFG.iret hx hb hr hlocks hQ hw rfl dX6_on_62 (zPM.mk (t := zm_on S (g 5) (nI i) (nI j) w) (r := (zGo j S) 5 i) (S' := S) (fd' := g 5) (by unfold zm_on; rw [if_pos ⟨c5, c15, c25⟩, zc_nI (show j < 2147483648 by omega), zc_nI (show i < 2147483648 by omega)]; first | rw [if_pos c48] | rw [if_neg c48]) (zflat S) (congrArg (fun z => zMW x a q z nu _) (zG2 g (zflat S))))
      · have c25 := zb_0.mp c25
        refine lv_aload_n hx hb dX6_on_28 rfl (lv_at hl 0 rfl) ?_
        refine lv_ldc (v := (-1000000001)) hx hb hown (hts _ ckX6_45) dX6_on_29 ?_
        refine zcVwi (r := (-1000000001)) hx hb hml hown hts hl.1 hK hE hA lkX6_64 (c_X6_finds x a q g nu (zflat S) (-1000000001) 0 (by decide) (by decide)) ⟨Nat.le_of_ble_eq_true rfl, Nat.le_of_ble_eq_true rfl⟩ ⟨Nat.zero_le _, Nat.zero_le _⟩ hw 0 4 rfl rfl rfl rfl (Nat.le_of_ble_eq_true rfl) dX6_on_31 (fun H locs hw => ?_)
        have hw : zHw x A s.heap (zMW x a q (zU g 5 0 (g 5 0 + 1)) nu (zflat S)) H locs := hw
        exact zFG.iret hx hb hr hlocks hQ hw rfl dX6_on_34 (zPM.mk (t := zm_on S (g 5) h n w) (r := (-1000000001)) (S' := S) (fd' := zFd (g 5) 0) (by unfold zm_on; first | (rw [if_neg (fun h => c25 h.2.2)]; rfl) | (rw [if_neg (fun h => c15 h.2.1)]; rfl) | (rw [if_neg (fun h => c5 h.1)]; rfl)) (g 4) (congrArg (fun z => zMW x a q z nu _) (zG1 g 0)))

set_option maxHeartbeats 4000000 in
set_option maxRecDepth 100000 in
theorem c_X6_worse (x : zX) (a : Nat → Nat) (q : Nat → Int32) (g : zT) (nu : Nat → Nat → Int64) (S : zT) (n : Int32) (hI : zInv S) : zFG x mX6_worse 9 [.ref (a 0), .int n] (zMW x a q g nu (zflat S)) (zPM x a q g nu (zm_worse S (g 5) n)) := by
  refine zFG.start RX6 cX6_worse 2 (some .int) rfl rfl (by decide +kernel) (Nat.le_of_ble_eq_true rfl) ?_
  intro p e s m ar below meth c ls A Q hx hb hr hml hown hts hlocks hK hE hA hQ hl hw
  have hl : lv_has ls 2 [(0, .ref (a 0)), (1, .int n)] := hl
  have hw : zHw x A s.heap (zMW x a q g nu (zflat S)) s.heap [] := hw
  refine lv_iload_n hx hb dX6_worse_0 rfl (lv_at hl 1 rfl) ?_
  refine lv_iconst (v := 0) hx hb dX6_worse_1 (by decide) ?_
  refine lv_bipush (v := 104) hx hb dX6_worse_2 (by decide) ?_
  refine zcSwi (r := zb (0 ≤ n ∧ n ≤ 104)) hx hb hml hown hts hl.1 hK hE hA lkX6_161 (c_X6_isFar x (zMW x a q g nu (zflat S)) n 0 104) ⟨Nat.le_of_ble_eq_true rfl, Nat.le_of_ble_eq_true rfl⟩ ⟨Nat.zero_le _, Nat.zero_le _⟩ hw rfl rfl (Nat.le_of_ble_eq_true rfl) dX6_worse_4 (fun H locs hw => ?_)
  have hw : zHw x A s.heap (zMW x a q g nu (zflat S)) H locs := hw
  refine lv_if_eq (tgt := 18) hx hb dX6_worse_7 (by decide) (fun c7 => ?_) (fun c7 => ?_)
  · have c7 := zb_0.mp c7
    refine lv_aload_n hx hb dX6_worse_18 rfl (lv_at hl 0 rfl) ?_
    refine lv_ldc (v := (-1000000001)) hx hb hown (hts _ ckX6_45) dX6_worse_19 ?_
    refine zcVwi (r := (-1000000001)) hx hb hml hown hts hl.1 hK hE hA lkX6_64 (c_X6_finds x a q g nu (zflat S) (-1000000001) 0 (by decide) (by decide)) ⟨Nat.le_of_ble_eq_true rfl, Nat.le_of_ble_eq_true rfl⟩ ⟨Nat.zero_le _, Nat.zero_le _⟩ hw 0 4 rfl rfl rfl rfl (Nat.le_of_ble_eq_true rfl) dX6_worse_21 (fun H locs hw => ?_)
    have hw : zHw x A s.heap (zMW x a q (zU g 5 0 (g 5 0 + 1)) nu (zflat S)) H locs := hw
    exact zFG.iret hx hb hr hlocks hQ hw rfl dX6_worse_24 (zPM.mk (t := zm_worse S (g 5) n) (r := (-1000000001)) (S' := S) (fd' := zFd (g 5) 0) (by unfold zm_worse; first | (rw [if_pos c7, zc_nI (show j < 2147483648 by omega)]; done) | (rw [if_neg c7]; rfl)) (g 4) (congrArg (fun z => zMW x a q z nu _) (zG1 g 0)))
  · have c7 := zb_n0.mp c7
    obtain ⟨j, hj, rfl⟩ := zBw_nat (hi := 104) c7 (by decide) (by decide)
    refine lv_aload_n hx hb dX6_worse_10 rfl (lv_at hl 0 rfl) ?_
    refine lv_iload_n hx hb dX6_worse_11 rfl (lv_at hl 1 rfl) ?_
    refine zcVwi (r := zWr (zGo j S)) hx hb hml hown hts hl.1 hK hE hA lkX6_171 (c_X6_worseIn x a q g nu S j hI (by omega)) ⟨Nat.le_of_ble_eq_true rfl, Nat.le_of_ble_eq_true rfl⟩ ⟨Nat.zero_le _, Nat.zero_le _⟩ hw 0 4 rfl rfl rfl rfl (Nat.le_of_ble_eq_true rfl) dX6_worse_12 (fun H locs hw => ?_)
    have hw : zHw x A s.heap (zMW x a q (zV g 4 (zflat S)) nu (zflat S)) H locs := hw
    refine lv_goto (tgt := 24) hx hb dX6_worse_15 (by decide) ?_
    exact zFG.iret hx hb hr hlocks hQ hw rfl dX6_worse_24 (zPM.mk (t := zm_worse S (g 5) (nI j)) (r := zWr (zGo j S)) (S' := S) (fd' := g 5) (by unfold zm_worse; first | (rw [if_pos c7, zc_nI (show j < 2147483648 by omega)]; done) | (rw [if_neg c7]; rfl)) (zflat S) (congrArg (fun z => zMW x a q z nu _) (zG2 g (zflat S))))

set_option maxHeartbeats 4000000 in
set_option maxRecDepth 100000 in
theorem c_X6_cost (x : zX) (a : Nat → Nat) (q : Nat → Int32) (g : zT) (nu : Nat → Nat → Int64) (S : zT) (n : Int32) (hI : zInv S) : zFG x mX6_cost 8 [.ref (a 0), .int n] (zMW x a q g nu (zflat S)) (zPM x a q g nu (zm_cost S (g 5) n)) := by
  refine zFG.start RX6 cX6_cost 3 (some .int) rfl rfl (by decide +kernel) (Nat.le_of_ble_eq_true rfl) ?_
  intro p e s m ar below meth c ls A Q hx hb hr hml hown hts hlocks hK hE hA hQ hl hw
  have hl : lv_has ls 3 [(0, .ref (a 0)), (1, .int n)] := hl
  have hw : zHw x A s.heap (zMW x a q g nu (zflat S)) s.heap [] := hw
  refine lv_iload_n hx hb dX6_cost_0 rfl (lv_at hl 1 rfl) ?_
  refine lv_iconst (v := 0) hx hb dX6_cost_1 (by decide) ?_
  refine lv_bipush (v := 104) hx hb dX6_cost_2 (by decide) ?_
  refine zcSwi (r := zb (0 ≤ n ∧ n ≤ 104)) hx hb hml hown hts hl.1 hK hE hA lkX6_161 (c_X6_isFar x (zMW x a q g nu (zflat S)) n 0 104) ⟨Nat.le_of_ble_eq_true rfl, Nat.le_of_ble_eq_true rfl⟩ ⟨Nat.zero_le _, Nat.zero_le _⟩ hw rfl rfl (Nat.le_of_ble_eq_true rfl) dX6_cost_4 (fun H locs hw => ?_)
  have hw : zHw x A s.heap (zMW x a q g nu (zflat S)) H locs := hw
  refine lv_if_ne (tgt := 17) hx hb dX6_cost_7 (by decide) (fun c7 => ?_) (fun c7 => ?_)
  · have c7 := zb_n0.mp c7
    obtain ⟨j, hj, rfl⟩ := zBw_nat (hi := 104) c7 (by decide) (by decide)
    refine lv_aload_n hx hb dX6_cost_17 rfl (lv_at hl 0 rfl) ?_
    refine gfX6_7 hx hb hown hts hK hw 0 rfl rfl dX6_cost_18 ?_
    refine lv_bipush (v := 6) hx hb dX6_cost_21 (by decide) ?_
    refine zial2 (v := S 0 6) hx hb hK hw 1 0 6 rfl rfl rfl (by decide) (by decide) dX6_cost_23 rfl ?_
    refine lv_istore_n (lv' := [(2, .int (S 0 6)), (0, .ref (a 0)), (1, .int (nI j))]) hx hb dX6_cost_24 rfl hl (by decide) rfl (fun ls hl => ?_)
    refine lv_aload_n hx hb dX6_cost_25 rfl (lv_at hl 1 rfl) ?_
    refine zcVwv hx hb hml hown hts hl.1 hK hE hA lkX6_165 (c_X6_laysAside x a q g nu (zflat S)) ⟨Nat.le_of_ble_eq_true rfl, Nat.le_of_ble_eq_true rfl⟩ ⟨Nat.zero_le _, Nat.zero_le _⟩ hw 0 4 rfl rfl rfl rfl (Nat.le_of_ble_eq_true rfl) dX6_cost_26 (fun H locs hw => ?_)
    have hw : zHw x A s.heap (zMW x a q (zV g 4 (zflat S)) nu (zflat S)) H locs := hw
    refine lv_aload_n hx hb dX6_cost_29 rfl (lv_at hl 1 rfl) ?_
    refine lv_iload_n hx hb dX6_cost_30 rfl (lv_at hl 2 rfl) ?_
    refine zcVwv hx hb hml hown hts hl.1 hK hE hA lkX6_152 (c_X6_weeksGo x a q (zV g 4 (zflat S)) nu S j hI (by omega)) ⟨Nat.le_of_ble_eq_true rfl, Nat.le_of_ble_eq_true rfl⟩ ⟨Nat.zero_le _, Nat.zero_le _⟩ hw 0 4 rfl rfl rfl rfl (Nat.le_of_ble_eq_true rfl) dX6_cost_31 (fun H locs hw => ?_)
    have hw : zHw x A s.heap (zMW x a q (zV g 4 (zflat S)) nu (zflat (zGo j S))) H locs := hw
    refine lv_aload_n hx hb dX6_cost_34 rfl (lv_at hl 1 rfl) ?_
    refine lv_aload_n hx hb dX6_cost_35 rfl (lv_at hl 1 rfl) ?_
    refine gfX6_7 hx hb hown hts hK hw 0 rfl rfl dX6_cost_36 ?_
    refine lv_bipush (v := 6) hx hb dX6_cost_39 (by decide) ?_
    refine zial2 (v := (zGo j S) 0 6) hx hb hK hw 1 0 6 rfl rfl rfl (by decide) (by decide) dX6_cost_41 rfl ?_
    refine lv_iload_n hx hb dX6_cost_42 rfl (lv_at hl 0 rfl) ?_
    refine lv_isub hx hb dX6_cost_43 ?_
    refine zcVwi (r := ((zGo j S) 0 6) - (S 0 6)) hx hb hml hown hts hl.1 hK hE hA lkX6_168 (c_X6_takesBack x a q (zV g 4 (zflat S)) nu (zflat (zGo j S)) (((zGo j S) 0 6) - (S 0 6))) ⟨Nat.le_of_ble_eq_true rfl, Nat.le_of_ble_eq_true rfl⟩ ⟨Nat.zero_le _, Nat.zero_le _⟩ hw 0 4 rfl rfl rfl rfl (Nat.le_of_ble_eq_true rfl) dX6_cost_44 (fun H locs hw => ?_)
    have hw : zHw x A s.heap (zMW x a q (zV g 4 (zflat S)) nu (zflat S)) H locs := hw
    exact zFG.iret hx hb hr hlocks hQ hw rfl dX6_cost_47 (zPM.mk (t := zm_cost S (g 5) (nI j)) (r := ((zGo j S) 0 6) - (S 0 6)) (S' := S) (fd' := g 5) (by unfold zm_cost; first | (rw [if_pos c7, zc_nI (show j < 2147483648 by omega)]; done) | (rw [if_neg c7]; rfl)) (zflat S) (congrArg (fun z => zMW x a q z nu _) (zG2 g (zflat S))))
  · have c7 := zb_0.mp c7
    refine lv_aload_n hx hb dX6_cost_10 rfl (lv_at hl 0 rfl) ?_
    refine lv_ldc (v := (-1000000001)) hx hb hown (hts _ ckX6_45) dX6_cost_11 ?_
    refine zcVwi (r := (-1000000001)) hx hb hml hown hts hl.1 hK hE hA lkX6_64 (c_X6_finds x a q g nu (zflat S) (-1000000001) 0 (by decide) (by decide)) ⟨Nat.le_of_ble_eq_true rfl, Nat.le_of_ble_eq_true rfl⟩ ⟨Nat.zero_le _, Nat.zero_le _⟩ hw 0 4 rfl rfl rfl rfl (Nat.le_of_ble_eq_true rfl) dX6_cost_13 (fun H locs hw => ?_)
    have hw : zHw x A s.heap (zMW x a q (zU g 5 0 (g 5 0 + 1)) nu (zflat S)) H locs := hw
    exact zFG.iret hx hb hr hlocks hQ hw rfl dX6_cost_16 (zPM.mk (t := zm_cost S (g 5) n) (r := (-1000000001)) (S' := S) (fd' := zFd (g 5) 0) (by unfold zm_cost; first | (rw [if_pos c7, zc_nI (show j < 2147483648 by omega)]; done) | (rw [if_neg c7]; rfl)) (g 4) (congrArg (fun z => zMW x a q z nu _) (zG1 g 0)))

set_option maxHeartbeats 4000000 in
set_option maxRecDepth 100000 in
theorem c_X6_firstSo_1 (x : zX) (a : Nat → Nat) (q : Nat → Int32) (g : zT) (nu : Nat → Nat → Int64) (S : zT) (h : Nat) (hI : zInv S) (hh : h < 8) : zFG x mX6_firstSo 7 [.ref (a 0), .int (nI h), .int 1] (zMW x a q g nu (zflat S)) (zPM x a q g nu (zm_fs true S (g 5) h)) := by
  refine zFG.start RX6 cX6_firstSo 5 (some .int) rfl rfl (by decide +kernel) (Nat.le_of_ble_eq_true rfl) ?_
  intro p e s m ar below meth c ls A Q hx hb hr hml hown hts hlocks hK hE hA hQ hl hw
  have hl : lv_has ls 5 [(0, .ref (a 0)), (1, .int (nI h)), (2, .int 1)] := hl
  have hw : zHw x A s.heap (zMW x a q g nu (zflat S)) s.heap [] := hw
  refine lv_aload_n hx hb dX6_firstSo_0 rfl (lv_at hl 0 rfl) ?_
  refine zcVwv hx hb hml hown hts hl.1 hK hE hA lkX6_165 (c_X6_laysAside x a q g nu (zflat S)) ⟨Nat.le_of_ble_eq_true rfl, Nat.le_of_ble_eq_true rfl⟩ ⟨Nat.zero_le _, Nat.zero_le _⟩ hw 0 4 rfl rfl rfl rfl (Nat.le_of_ble_eq_true rfl) dX6_firstSo_1 (fun H locs hw => ?_)
  have hw : zHw x A s.heap (zMW x a q (zV g 4 (zflat S)) nu (zflat S)) H locs := hw
  refine lv_iconst (v := 0) hx hb dX6_firstSo_4 (by decide) ?_
  refine lv_istore_n (lv' := [(3, .int 0), (0, .ref (a 0)), (1, .int (nI h)), (2, .int 1)]) hx hb dX6_firstSo_5 rfl hl (by decide) rfl (fun ls hl => ?_)
  have loop6 : ∀ (dd : Nat) (n : Nat) (T : zT), 105 - n < dd → (hn : n ≤ 105) → (hJ : zInv T) → (e1 : zFs h true (105 - n) T n = zFs h true 105 S 0) → ∀ (H : Heap) (locs : List Loc) (ls : Array Slot), zHw x A s.heap (zMW x a q (zV g 4 (zflat S)) nu (zflat T)) H locs → lv_has ls 5 [(0, .ref (a 0)), (1, .int (nI h)), (2, .int 1), (3, .int (nI n))] → W p x.1 e (zRM 7) s m ar below meth c H locs 0 0 Q (F0 m 6 ls []) := by
    intro dd
    induction dd with
    | zero => intro n T hm; exact absurd hm (Nat.not_lt_zero _)
    | succ dd ih6 =>
      intro n T hm hn hJ e1 H locs ls hw hl
      refine lv_iload_n hx hb dX6_firstSo_6 rfl (lv_at hl 3 rfl) ?_
      refine lv_bipush (v := 104) hx hb dX6_firstSo_7 (by decide) ?_
      refine lv_icmp_gt (tgt := 40) hx hb dX6_firstSo_9 (by decide) (fun c9 => ?_) (fun c9 => ?_)
      · refine lv_aload_n hx hb dX6_firstSo_40 rfl (lv_at hl 0 rfl) ?_
        refine lv_iload_n hx hb dX6_firstSo_41 rfl (lv_at hl 3 rfl) ?_
        refine zcVwi (r := nI n) hx hb hml hown hts hl.1 hK hE hA lkX6_168 (c_X6_takesBack x a q (zV g 4 (zflat S)) nu (zflat T) (nI n)) ⟨Nat.le_of_ble_eq_true rfl, Nat.le_of_ble_eq_true rfl⟩ ⟨Nat.zero_le _, Nat.zero_le _⟩ hw 0 4 rfl rfl rfl rfl (Nat.le_of_ble_eq_true rfl) dX6_firstSo_42 (fun H locs hw => ?_)
        have hw : zHw x A s.heap (zMW x a q (zV g 4 (zflat S)) nu (zflat S)) H locs := hw
        refine lv_istore (lv' := [(4, .int (nI n)), (0, .ref (a 0)), (1, .int (nI h)), (2, .int 1), (3, .int (nI n))]) hx hb dX6_firstSo_45 hl (by decide) rfl (fun ls hl => ?_)
        refine lv_iload hx hb dX6_firstSo_47 (lv_at hl 0 rfl) ?_
        refine lv_bipush (v := 104) hx hb dX6_firstSo_49 (by decide) ?_
        refine lv_icmp_le (tgt := 63) hx hb dX6_firstSo_51 (by decide) (fun c51 => absurd c51 (Int32.not_le.mpr c9)) (fun c51 => ?_)
        refine lv_aload_n hx hb dX6_firstSo_54 rfl (lv_at hl 1 rfl) ?_
        refine lv_ldc (v := (-1000000004)) hx hb hown (hts _ ckX6_142) dX6_firstSo_55 ?_
        refine zcVwi (r := (-1000000004)) hx hb hml hown hts hl.1 hK hE hA lkX6_64 (c_X6_finds x a q (zV g 4 (zflat S)) nu (zflat S) (-1000000004) 3 (by decide) (by decide)) ⟨Nat.le_of_ble_eq_true rfl, Nat.le_of_ble_eq_true rfl⟩ ⟨Nat.zero_le _, Nat.zero_le _⟩ hw 0 4 rfl rfl rfl rfl (Nat.le_of_ble_eq_true rfl) dX6_firstSo_57 (fun H locs hw => ?_)
        have hw : zHw x A s.heap (zMW x a q (zU (zV g 4 (zflat S)) 5 3 ((zV g 4 (zflat S)) 5 3 + 1)) nu (zflat S)) H locs := hw
        refine lv_goto (tgt := 65) hx hb dX6_firstSo_60 (by decide) ?_
        exact zFG.iret hx hb hr hlocks hQ hw rfl dX6_firstSo_65 (zPM.mk (t := zm_fs true S (g 5) h) (r := (-1000000004)) (S' := S) (fd' := zFd (g 5) 3) (by have e5 := z105 hn c9; subst e5; unfold zm_fs; rw [← e1]; rfl) (zflat S) (rfl))
      · have hn4 : n ≤ 104 := (nI_leI (b := 104) (by omega) (by decide)).mp (Int32.not_lt.mp c9)
        have hj : 105 - n = (105 - (n + 1)) + 1 := by omega
        refine lv_aload_n hx hb dX6_firstSo_12 rfl (lv_at hl 0 rfl) ?_
        refine lv_iload_n hx hb dX6_firstSo_13 rfl (lv_at hl 1 rfl) ?_
        refine lv_iconst (v := 3) hx hb dX6_firstSo_14 (by decide) ?_
        refine zcVwi (r := T 6 h) hx hb hml hown hts hl.1 hK hE hA lkX6_74 (c_X6_its x a q (zV g 4 (zflat S)) nu T h 3 (by omega) (by omega)) ⟨Nat.le_of_ble_eq_true rfl, Nat.le_of_ble_eq_true rfl⟩ ⟨Nat.zero_le _, Nat.zero_le _⟩ hw 0 4 rfl rfl rfl rfl (Nat.le_of_ble_eq_true rfl) dX6_firstSo_15 (fun H locs hw => ?_)
        have hw : zHw x A s.heap (zMW x a q (zV g 4 (zflat S)) nu (zflat T)) H locs := hw
        refine lv_if_le (tgt := 25) hx hb dX6_firstSo_18 (by decide) (fun c18 => ?_) (fun c18 => ?_)
        · have h6 : T 6 h = 0 := znp_eq (hJ.col 6 h (by decide) (by decide) hh) c18 (show 2 < 1000 by decide)
          have hz : ¬ (decide (¬ T 6 h = 0) = true) := fun e => by rw [decide_eq_false (fun e => e h6)] at e; cases e
          refine lv_iconst (v := 0) hx hb dX6_firstSo_25 (by decide) ?_
          refine lv_iload_n hx hb dX6_firstSo_26 rfl (lv_at hl 2 rfl) ?_
          refine lv_icmp_eq (tgt := 40) hx hb dX6_firstSo_27 (by decide) (fun c27 => absurd c27 (by decide)) (fun c27 => ?_)
          refine lv_aload_n hx hb dX6_firstSo_30 rfl (lv_at hl 0 rfl) ?_
          refine zcVwv hx hb hml hown hts hl.1 hK hE hA lkX6_147 (c_X6_week x a q (zV g 4 (zflat S)) nu T hJ) ⟨Nat.le_of_ble_eq_true rfl, Nat.le_of_ble_eq_true rfl⟩ ⟨Nat.zero_le _, Nat.zero_le _⟩ hw 0 4 rfl rfl rfl rfl (Nat.le_of_ble_eq_true rfl) dX6_firstSo_31 (fun H locs hw => ?_)
          have hw : zHw x A s.heap (zMW x a q (zV g 4 (zflat S)) nu (zflat (zWk T))) H locs := hw
          refine lv_iinc (v := nI (n + 1)) (lv' := [(3, .int (nI (n + 1))), (0, .ref (a 0)), (1, .int (nI h)), (2, .int 1)]) hx hb dX6_firstSo_34 hl (k := 3) rfl (nI_1 n) (by decide) rfl (fun ls hl => ?_)
          refine lv_goto (tgt := 6) hx hb dX6_firstSo_37 (by decide) ?_
          exact ih6 (n + 1) (zWk T) (by omega) (by omega) ((zWk_ok hJ).1) (by rw [← e1, hj, zFs_f hz]) _ _ _ hw (lv_sub hl [1, 2, 3, 0] rfl)
        · have h6 : ¬ T 6 h = 0 := zpos_ne c18
          have hz : decide (¬ T 6 h = 0) = true := decide_eq_true h6
          refine lv_iconst (v := 1) hx hb dX6_firstSo_21 (by decide) ?_
          refine lv_goto (tgt := 26) hx hb dX6_firstSo_22 (by decide) ?_
          refine lv_iload_n hx hb dX6_firstSo_26 rfl (lv_at hl 2 rfl) ?_
          refine lv_icmp_eq (tgt := 40) hx hb dX6_firstSo_27 (by decide) (fun c27 => ?_) (fun c27 => absurd (by decide) c27)
          refine lv_aload_n hx hb dX6_firstSo_40 rfl (lv_at hl 0 rfl) ?_
          refine lv_iload_n hx hb dX6_firstSo_41 rfl (lv_at hl 3 rfl) ?_
          refine zcVwi (r := nI n) hx hb hml hown hts hl.1 hK hE hA lkX6_168 (c_X6_takesBack x a q (zV g 4 (zflat S)) nu (zflat T) (nI n)) ⟨Nat.le_of_ble_eq_true rfl, Nat.le_of_ble_eq_true rfl⟩ ⟨Nat.zero_le _, Nat.zero_le _⟩ hw 0 4 rfl rfl rfl rfl (Nat.le_of_ble_eq_true rfl) dX6_firstSo_42 (fun H locs hw => ?_)
          have hw : zHw x A s.heap (zMW x a q (zV g 4 (zflat S)) nu (zflat S)) H locs := hw
          refine lv_istore (lv' := [(4, .int (nI n)), (0, .ref (a 0)), (1, .int (nI h)), (2, .int 1), (3, .int (nI n))]) hx hb dX6_firstSo_45 hl (by decide) rfl (fun ls hl => ?_)
          refine lv_iload hx hb dX6_firstSo_47 (lv_at hl 0 rfl) ?_
          refine lv_bipush (v := 104) hx hb dX6_firstSo_49 (by decide) ?_
          refine lv_icmp_le (tgt := 63) hx hb dX6_firstSo_51 (by decide) (fun c51 => ?_) (fun c51 => absurd (nI_le (b := 104) hn4 (by decide)) c51)
          refine lv_iload hx hb dX6_firstSo_63 (lv_at hl 0 rfl) ?_
          exact zFG.iret hx hb hr hlocks hQ hw rfl dX6_firstSo_65 (zPM.mk (t := zm_fs true S (g 5) h) (r := nI n) (S' := S) (fd' := g 5) (by unfold zm_fs; rw [← e1, hj, zFs_t hz]) (zflat S) (congrArg (fun z => zMW x a q z nu _) (zG2 g (zflat S))))
  exact loop6 (_ + 1) 0 S (Nat.lt_succ_self _) (Nat.zero_le _) hI rfl _ _ _ hw (lv_sub hl [1, 2, 3, 0] rfl)

set_option maxHeartbeats 4000000 in
set_option maxRecDepth 100000 in
theorem c_X6_firstSo_0 (x : zX) (a : Nat → Nat) (q : Nat → Int32) (g : zT) (nu : Nat → Nat → Int64) (S : zT) (h : Nat) (hI : zInv S) (hh : h < 8) : zFG x mX6_firstSo 7 [.ref (a 0), .int (nI h), .int 0] (zMW x a q g nu (zflat S)) (zPM x a q g nu (zm_fs false S (g 5) h)) := by
  refine zFG.start RX6 cX6_firstSo 5 (some .int) rfl rfl (by decide +kernel) (Nat.le_of_ble_eq_true rfl) ?_
  intro p e s m ar below meth c ls A Q hx hb hr hml hown hts hlocks hK hE hA hQ hl hw
  have hl : lv_has ls 5 [(0, .ref (a 0)), (1, .int (nI h)), (2, .int 0)] := hl
  have hw : zHw x A s.heap (zMW x a q g nu (zflat S)) s.heap [] := hw
  refine lv_aload_n hx hb dX6_firstSo_0 rfl (lv_at hl 0 rfl) ?_
  refine zcVwv hx hb hml hown hts hl.1 hK hE hA lkX6_165 (c_X6_laysAside x a q g nu (zflat S)) ⟨Nat.le_of_ble_eq_true rfl, Nat.le_of_ble_eq_true rfl⟩ ⟨Nat.zero_le _, Nat.zero_le _⟩ hw 0 4 rfl rfl rfl rfl (Nat.le_of_ble_eq_true rfl) dX6_firstSo_1 (fun H locs hw => ?_)
  have hw : zHw x A s.heap (zMW x a q (zV g 4 (zflat S)) nu (zflat S)) H locs := hw
  refine lv_iconst (v := 0) hx hb dX6_firstSo_4 (by decide) ?_
  refine lv_istore_n (lv' := [(3, .int 0), (0, .ref (a 0)), (1, .int (nI h)), (2, .int 0)]) hx hb dX6_firstSo_5 rfl hl (by decide) rfl (fun ls hl => ?_)
  have loop6 : ∀ (dd : Nat) (n : Nat) (T : zT), 105 - n < dd → (hn : n ≤ 105) → (hJ : zInv T) → (e1 : zFs h false (105 - n) T n = zFs h false 105 S 0) → ∀ (H : Heap) (locs : List Loc) (ls : Array Slot), zHw x A s.heap (zMW x a q (zV g 4 (zflat S)) nu (zflat T)) H locs → lv_has ls 5 [(0, .ref (a 0)), (1, .int (nI h)), (2, .int 0), (3, .int (nI n))] → W p x.1 e (zRM 7) s m ar below meth c H locs 0 0 Q (F0 m 6 ls []) := by
    intro dd
    induction dd with
    | zero => intro n T hm; exact absurd hm (Nat.not_lt_zero _)
    | succ dd ih6 =>
      intro n T hm hn hJ e1 H locs ls hw hl
      refine lv_iload_n hx hb dX6_firstSo_6 rfl (lv_at hl 3 rfl) ?_
      refine lv_bipush (v := 104) hx hb dX6_firstSo_7 (by decide) ?_
      refine lv_icmp_gt (tgt := 40) hx hb dX6_firstSo_9 (by decide) (fun c9 => ?_) (fun c9 => ?_)
      · refine lv_aload_n hx hb dX6_firstSo_40 rfl (lv_at hl 0 rfl) ?_
        refine lv_iload_n hx hb dX6_firstSo_41 rfl (lv_at hl 3 rfl) ?_
        refine zcVwi (r := nI n) hx hb hml hown hts hl.1 hK hE hA lkX6_168 (c_X6_takesBack x a q (zV g 4 (zflat S)) nu (zflat T) (nI n)) ⟨Nat.le_of_ble_eq_true rfl, Nat.le_of_ble_eq_true rfl⟩ ⟨Nat.zero_le _, Nat.zero_le _⟩ hw 0 4 rfl rfl rfl rfl (Nat.le_of_ble_eq_true rfl) dX6_firstSo_42 (fun H locs hw => ?_)
        have hw : zHw x A s.heap (zMW x a q (zV g 4 (zflat S)) nu (zflat S)) H locs := hw
        refine lv_istore (lv' := [(4, .int (nI n)), (0, .ref (a 0)), (1, .int (nI h)), (2, .int 0), (3, .int (nI n))]) hx hb dX6_firstSo_45 hl (by decide) rfl (fun ls hl => ?_)
        refine lv_iload hx hb dX6_firstSo_47 (lv_at hl 0 rfl) ?_
        refine lv_bipush (v := 104) hx hb dX6_firstSo_49 (by decide) ?_
        refine lv_icmp_le (tgt := 63) hx hb dX6_firstSo_51 (by decide) (fun c51 => absurd c51 (Int32.not_le.mpr c9)) (fun c51 => ?_)
        refine lv_aload_n hx hb dX6_firstSo_54 rfl (lv_at hl 1 rfl) ?_
        refine lv_ldc (v := (-1000000004)) hx hb hown (hts _ ckX6_142) dX6_firstSo_55 ?_
        refine zcVwi (r := (-1000000004)) hx hb hml hown hts hl.1 hK hE hA lkX6_64 (c_X6_finds x a q (zV g 4 (zflat S)) nu (zflat S) (-1000000004) 3 (by decide) (by decide)) ⟨Nat.le_of_ble_eq_true rfl, Nat.le_of_ble_eq_true rfl⟩ ⟨Nat.zero_le _, Nat.zero_le _⟩ hw 0 4 rfl rfl rfl rfl (Nat.le_of_ble_eq_true rfl) dX6_firstSo_57 (fun H locs hw => ?_)
        have hw : zHw x A s.heap (zMW x a q (zU (zV g 4 (zflat S)) 5 3 ((zV g 4 (zflat S)) 5 3 + 1)) nu (zflat S)) H locs := hw
        refine lv_goto (tgt := 65) hx hb dX6_firstSo_60 (by decide) ?_
        exact zFG.iret hx hb hr hlocks hQ hw rfl dX6_firstSo_65 (zPM.mk (t := zm_fs false S (g 5) h) (r := (-1000000004)) (S' := S) (fd' := zFd (g 5) 3) (by have e5 := z105 hn c9; subst e5; unfold zm_fs; rw [← e1]; rfl) (zflat S) (rfl))
      · have hn4 : n ≤ 104 := (nI_leI (b := 104) (by omega) (by decide)).mp (Int32.not_lt.mp c9)
        have hj : 105 - n = (105 - (n + 1)) + 1 := by omega
        refine lv_aload_n hx hb dX6_firstSo_12 rfl (lv_at hl 0 rfl) ?_
        refine lv_iload_n hx hb dX6_firstSo_13 rfl (lv_at hl 1 rfl) ?_
        refine lv_iconst (v := 3) hx hb dX6_firstSo_14 (by decide) ?_
        refine zcVwi (r := T 6 h) hx hb hml hown hts hl.1 hK hE hA lkX6_74 (c_X6_its x a q (zV g 4 (zflat S)) nu T h 3 (by omega) (by omega)) ⟨Nat.le_of_ble_eq_true rfl, Nat.le_of_ble_eq_true rfl⟩ ⟨Nat.zero_le _, Nat.zero_le _⟩ hw 0 4 rfl rfl rfl rfl (Nat.le_of_ble_eq_true rfl) dX6_firstSo_15 (fun H locs hw => ?_)
        have hw : zHw x A s.heap (zMW x a q (zV g 4 (zflat S)) nu (zflat T)) H locs := hw
        refine lv_if_le (tgt := 25) hx hb dX6_firstSo_18 (by decide) (fun c18 => ?_) (fun c18 => ?_)
        · have h6 : T 6 h = 0 := znp_eq (hJ.col 6 h (by decide) (by decide) hh) c18 (show 2 < 1000 by decide)
          have hz : decide (¬ T 6 h = 0) = false := decide_eq_false (fun e => e h6)
          refine lv_iconst (v := 0) hx hb dX6_firstSo_25 (by decide) ?_
          refine lv_iload_n hx hb dX6_firstSo_26 rfl (lv_at hl 2 rfl) ?_
          refine lv_icmp_eq (tgt := 40) hx hb dX6_firstSo_27 (by decide) (fun c27 => ?_) (fun c27 => absurd (by decide) c27)
          refine lv_aload_n hx hb dX6_firstSo_40 rfl (lv_at hl 0 rfl) ?_
          refine lv_iload_n hx hb dX6_firstSo_41 rfl (lv_at hl 3 rfl) ?_
          refine zcVwi (r := nI n) hx hb hml hown hts hl.1 hK hE hA lkX6_168 (c_X6_takesBack x a q (zV g 4 (zflat S)) nu (zflat T) (nI n)) ⟨Nat.le_of_ble_eq_true rfl, Nat.le_of_ble_eq_true rfl⟩ ⟨Nat.zero_le _, Nat.zero_le _⟩ hw 0 4 rfl rfl rfl rfl (Nat.le_of_ble_eq_true rfl) dX6_firstSo_42 (fun H locs hw => ?_)
          have hw : zHw x A s.heap (zMW x a q (zV g 4 (zflat S)) nu (zflat S)) H locs := hw
          refine lv_istore (lv' := [(4, .int (nI n)), (0, .ref (a 0)), (1, .int (nI h)), (2, .int 0), (3, .int (nI n))]) hx hb dX6_firstSo_45 hl (by decide) rfl (fun ls hl => ?_)
          refine lv_iload hx hb dX6_firstSo_47 (lv_at hl 0 rfl) ?_
          refine lv_bipush (v := 104) hx hb dX6_firstSo_49 (by decide) ?_
          refine lv_icmp_le (tgt := 63) hx hb dX6_firstSo_51 (by decide) (fun c51 => ?_) (fun c51 => absurd (nI_le (b := 104) hn4 (by decide)) c51)
          refine lv_iload hx hb dX6_firstSo_63 (lv_at hl 0 rfl) ?_
          exact zFG.iret hx hb hr hlocks hQ hw rfl dX6_firstSo_65 (zPM.mk (t := zm_fs false S (g 5) h) (r := nI n) (S' := S) (fd' := g 5) (by unfold zm_fs; rw [← e1, hj, zFs_t hz]) (zflat S) (congrArg (fun z => zMW x a q z nu _) (zG2 g (zflat S))))
        · have h6 : ¬ T 6 h = 0 := zpos_ne c18
          have hz : ¬ (decide (¬ T 6 h = 0) = false) := fun e => by rw [decide_eq_true h6] at e; cases e
          refine lv_iconst (v := 1) hx hb dX6_firstSo_21 (by decide) ?_
          refine lv_goto (tgt := 26) hx hb dX6_firstSo_22 (by decide) ?_
          refine lv_iload_n hx hb dX6_firstSo_26 rfl (lv_at hl 2 rfl) ?_
          refine lv_icmp_eq (tgt := 40) hx hb dX6_firstSo_27 (by decide) (fun c27 => absurd c27 (by decide)) (fun c27 => ?_)
          refine lv_aload_n hx hb dX6_firstSo_30 rfl (lv_at hl 0 rfl) ?_
          refine zcVwv hx hb hml hown hts hl.1 hK hE hA lkX6_147 (c_X6_week x a q (zV g 4 (zflat S)) nu T hJ) ⟨Nat.le_of_ble_eq_true rfl, Nat.le_of_ble_eq_true rfl⟩ ⟨Nat.zero_le _, Nat.zero_le _⟩ hw 0 4 rfl rfl rfl rfl (Nat.le_of_ble_eq_true rfl) dX6_firstSo_31 (fun H locs hw => ?_)
          have hw : zHw x A s.heap (zMW x a q (zV g 4 (zflat S)) nu (zflat (zWk T))) H locs := hw
          refine lv_iinc (v := nI (n + 1)) (lv' := [(3, .int (nI (n + 1))), (0, .ref (a 0)), (1, .int (nI h)), (2, .int 0)]) hx hb dX6_firstSo_34 hl (k := 3) rfl (nI_1 n) (by decide) rfl (fun ls hl => ?_)
          refine lv_goto (tgt := 6) hx hb dX6_firstSo_37 (by decide) ?_
          exact ih6 (n + 1) (zWk T) (by omega) (by omega) ((zWk_ok hJ).1) (by rw [← e1, hj, zFs_f hz]) _ _ _ hw (lv_sub hl [1, 2, 3, 0] rfl)
  exact loop6 (_ + 1) 0 S (Nat.lt_succ_self _) (Nat.zero_le _) hI rfl _ _ _ hw (lv_sub hl [1, 2, 3, 0] rfl)

set_option maxHeartbeats 4000000 in
set_option maxRecDepth 100000 in
theorem c_X6_filled (x : zX) (a : Nat → Nat) (q : Nat → Int32) (g : zT) (nu : Nat → Nat → Int64) (S : zT) (h : Int32) (hI : zInv S) : zFG x mX6_filled 8 [.ref (a 0), .int h] (zMW x a q g nu (zflat S)) (zPM x a q g nu (zm_first true S (g 5) h)) := by
  refine zFG.start RX6 cX6_filled 2 (some .int) rfl rfl (by decide +kernel) (Nat.le_of_ble_eq_true rfl) ?_
  intro p e s m ar below meth c ls A Q hx hb hr hml hown hts hlocks hK hE hA hQ hl hw
  have hl : lv_has ls 2 [(0, .ref (a 0)), (1, .int h)] := hl
  have hw : zHw x A s.heap (zMW x a q g nu (zflat S)) s.heap [] := hw
  refine lv_aload_n hx hb dX6_filled_0 rfl (lv_at hl 0 rfl) ?_
  refine lv_iload_n hx hb dX6_filled_1 rfl (lv_at hl 1 rfl) ?_
  refine zcVwi (r := zb (0 ≤ h ∧ h < S 0 0)) hx hb hml hown hts hl.1 hK hE hA lkX6_98 (c_X6_isHole x a q g nu S h hI) ⟨Nat.le_of_ble_eq_true rfl, Nat.le_of_ble_eq_true rfl⟩ ⟨Nat.zero_le _, Nat.zero_le _⟩ hw 0 4 rfl rfl rfl rfl (Nat.le_of_ble_eq_true rfl) dX6_filled_2 (fun H locs hw => ?_)
  have hw : zHw x A s.heap (zMW x a q g nu (zflat S)) H locs := hw
  refine lv_if_eq (tgt := 17) hx hb dX6_filled_5 (by decide) (fun c5 => ?_) (fun c5 => ?_)
  · have c5 := zb_0.mp c5
    refine lv_aload_n hx hb dX6_filled_17 rfl (lv_at hl 0 rfl) ?_
    refine lv_ldc (v := (-1000000001)) hx hb hown (hts _ ckX6_45) dX6_filled_18 ?_
    refine zcVwi (r := (-1000000001)) hx hb hml hown hts hl.1 hK hE hA lkX6_64 (c_X6_finds x a q g nu (zflat S) (-1000000001) 0 (by decide) (by decide)) ⟨Nat.le_of_ble_eq_true rfl, Nat.le_of_ble_eq_true rfl⟩ ⟨Nat.zero_le _, Nat.zero_le _⟩ hw 0 4 rfl rfl rfl rfl (Nat.le_of_ble_eq_true rfl) dX6_filled_20 (fun H locs hw => ?_)
    have hw : zHw x A s.heap (zMW x a q (zU g 5 0 (g 5 0 + 1)) nu (zflat S)) H locs := hw
    exact zFG.iret hx hb hr hlocks hQ hw rfl dX6_filled_23 (zPM.mk (t := zm_first true S (g 5) h) (r := (-1000000001)) (S' := S) (fd' := zFd (g 5) 0) (by unfold zm_first; rw [if_neg c5]; rfl) (g 4) (congrArg (fun z => zMW x a q z nu _) (zG1 g 0)))
  · have c5 := zb_n0.mp c5
    obtain ⟨i, hi8, hiN, rfl⟩ := zH_nat hI c5
    refine lv_aload_n hx hb dX6_filled_8 rfl (lv_at hl 0 rfl) ?_
    refine lv_iload_n hx hb dX6_filled_9 rfl (lv_at hl 1 rfl) ?_
    refine lv_iconst (v := 1) hx hb dX6_filled_10 (by decide) ?_
    refine zcVw hx hb hml hown hts hl.1 hK hE hA lkX6_174 (c_X6_firstSo_1 x a q g nu S i hI hi8) ⟨Nat.le_of_ble_eq_true rfl, Nat.le_of_ble_eq_true rfl⟩ ⟨Nat.zero_le _, Nat.zero_le _⟩ hw 0 4 rfl rfl rfl rfl (Nat.le_of_ble_eq_true rfl) dX6_filled_11 (fun vv uu H locs hp hw => ?_)
    obtain ⟨rfl, F, rfl⟩ := hp
    refine W.eq (g2 := F0 m 14 ls [.int ((zm_fs true S (g 5) i).1)]) rfl ?_
    have hw : zHw x A s.heap (zMW x a q (zV (zV g 4 F) 5 (zm_fs true S (g 5) i).2.2) nu (zflat ((zm_fs true S (g 5) i).2.1))) H locs := hw
    refine lv_goto (tgt := 23) hx hb dX6_filled_14 (by decide) ?_
    exact zFG.iret hx hb hr hlocks hQ hw rfl dX6_filled_23 (by rw [show zm_first true S (g 5) (nI i) = zm_fs true S (g 5) i from (zm_first_pos c5).trans (by rw [zc_nI (show i < 2147483648 by omega)])]; exact ⟨rfl, F, rfl⟩)

set_option maxHeartbeats 4000000 in
set_option maxRecDepth 100000 in
theorem c_X6_breaks (x : zX) (a : Nat → Nat) (q : Nat → Int32) (g : zT) (nu : Nat → Nat → Int64) (S : zT) (h : Int32) (hI : zInv S) : zFG x mX6_breaks 8 [.ref (a 0), .int h] (zMW x a q g nu (zflat S)) (zPM x a q g nu (zm_first false S (g 5) h)) := by
  refine zFG.start RX6 cX6_breaks 2 (some .int) rfl rfl (by decide +kernel) (Nat.le_of_ble_eq_true rfl) ?_
  intro p e s m ar below meth c ls A Q hx hb hr hml hown hts hlocks hK hE hA hQ hl hw
  have hl : lv_has ls 2 [(0, .ref (a 0)), (1, .int h)] := hl
  have hw : zHw x A s.heap (zMW x a q g nu (zflat S)) s.heap [] := hw
  refine lv_aload_n hx hb dX6_breaks_0 rfl (lv_at hl 0 rfl) ?_
  refine lv_iload_n hx hb dX6_breaks_1 rfl (lv_at hl 1 rfl) ?_
  refine zcVwi (r := zb (0 ≤ h ∧ h < S 0 0)) hx hb hml hown hts hl.1 hK hE hA lkX6_98 (c_X6_isHole x a q g nu S h hI) ⟨Nat.le_of_ble_eq_true rfl, Nat.le_of_ble_eq_true rfl⟩ ⟨Nat.zero_le _, Nat.zero_le _⟩ hw 0 4 rfl rfl rfl rfl (Nat.le_of_ble_eq_true rfl) dX6_breaks_2 (fun H locs hw => ?_)
  have hw : zHw x A s.heap (zMW x a q g nu (zflat S)) H locs := hw
  refine lv_if_eq (tgt := 17) hx hb dX6_breaks_5 (by decide) (fun c5 => ?_) (fun c5 => ?_)
  · have c5 := zb_0.mp c5
    refine lv_aload_n hx hb dX6_breaks_17 rfl (lv_at hl 0 rfl) ?_
    refine lv_ldc (v := (-1000000001)) hx hb hown (hts _ ckX6_45) dX6_breaks_18 ?_
    refine zcVwi (r := (-1000000001)) hx hb hml hown hts hl.1 hK hE hA lkX6_64 (c_X6_finds x a q g nu (zflat S) (-1000000001) 0 (by decide) (by decide)) ⟨Nat.le_of_ble_eq_true rfl, Nat.le_of_ble_eq_true rfl⟩ ⟨Nat.zero_le _, Nat.zero_le _⟩ hw 0 4 rfl rfl rfl rfl (Nat.le_of_ble_eq_true rfl) dX6_breaks_20 (fun H locs hw => ?_)
    have hw : zHw x A s.heap (zMW x a q (zU g 5 0 (g 5 0 + 1)) nu (zflat S)) H locs := hw
    exact zFG.iret hx hb hr hlocks hQ hw rfl dX6_breaks_23 (zPM.mk (t := zm_first false S (g 5) h) (r := (-1000000001)) (S' := S) (fd' := zFd (g 5) 0) (by unfold zm_first; rw [if_neg c5]; rfl) (g 4) (congrArg (fun z => zMW x a q z nu _) (zG1 g 0)))
  · have c5 := zb_n0.mp c5
    obtain ⟨i, hi8, hiN, rfl⟩ := zH_nat hI c5
    refine lv_aload_n hx hb dX6_breaks_8 rfl (lv_at hl 0 rfl) ?_
    refine lv_iload_n hx hb dX6_breaks_9 rfl (lv_at hl 1 rfl) ?_
    refine lv_iconst (v := 0) hx hb dX6_breaks_10 (by decide) ?_
    refine zcVw hx hb hml hown hts hl.1 hK hE hA lkX6_174 (c_X6_firstSo_0 x a q g nu S i hI hi8) ⟨Nat.le_of_ble_eq_true rfl, Nat.le_of_ble_eq_true rfl⟩ ⟨Nat.zero_le _, Nat.zero_le _⟩ hw 0 4 rfl rfl rfl rfl (Nat.le_of_ble_eq_true rfl) dX6_breaks_11 (fun vv uu H locs hp hw => ?_)
    obtain ⟨rfl, F, rfl⟩ := hp
    refine W.eq (g2 := F0 m 14 ls [.int ((zm_fs false S (g 5) i).1)]) rfl ?_
    have hw : zHw x A s.heap (zMW x a q (zV (zV g 4 F) 5 (zm_fs false S (g 5) i).2.2) nu (zflat ((zm_fs false S (g 5) i).2.1))) H locs := hw
    refine lv_goto (tgt := 23) hx hb dX6_breaks_14 (by decide) ?_
    exact zFG.iret hx hb hr hlocks hQ hw rfl dX6_breaks_23 (by rw [show zm_first false S (g 5) (nI i) = zm_fs false S (g 5) i from (zm_first_pos c5).trans (by rw [zc_nI (show i < 2147483648 by omega)])]; exact ⟨rfl, F, rfl⟩)
