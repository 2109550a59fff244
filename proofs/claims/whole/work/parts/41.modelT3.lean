set_option maxHeartbeats 4000000 in
set_option maxRecDepth 100000 in
theorem c_X6_kindHere (x : zX) (a : Nat → Nat) (g : zT) (nu : Nat → Nat → Int64) (S : zT) (n y : Nat) (q0 v : Int32) (hn : n ≤ 120) (hy : y ≤ n) : zFF x mX6_kindHere 3 [.ref (a 0)] (zMW x a (zTq (g 6) n y q0 v 0) g nu (zflat S)) (some (.int (zKn (g 6) n y))) (zMW x a (zTq (g 6) n y q0 v 0) g nu (zflat S)) := by
  refine zFG.start RX6 cX6_kindHere 3 (some .int) rfl rfl (by decide +kernel) (Nat.le_of_ble_eq_true rfl) ?_
  intro p e s m ar below meth c ls A Q hx hb hr hml hown hts hlocks hK hE hA hQ hl hw
  have hl : lv_has ls 3 [(0, .ref (a 0))] := hl
  have hw : zHw x A s.heap (zMW x a (zTq (g 6) n y q0 v 0) g nu (zflat S)) s.heap [] := hw
  refine lv_aload_n hx hb dX6_kindHere_0 rfl (lv_at hl 0 rfl) ?_
  refine zcVwl (r := lN (zWv (g 6) n y)) hx hb hml hown hts hl.1 hK hE hA lkX6_228 (c_X6_word_0 x a g nu (zflat S) n y q0 v hn hy) ⟨Nat.le_of_ble_eq_true rfl, Nat.le_of_ble_eq_true rfl⟩ ⟨Nat.zero_le _, Nat.zero_le _⟩ hw 0 4 rfl rfl rfl rfl (Nat.le_of_ble_eq_true rfl) dX6_kindHere_1 (fun H locs hw => ?_)
  have hw : zHw x A s.heap (zMW x a (zTq (g 6) n y q0 v 0) g nu (zflat S)) H locs := hw
  refine lv_lstore_n (lv' := [(1, .long (lN (zWv (g 6) n y))), (0, .ref (a 0))]) hx hb dX6_kindHere_4 rfl hl (by decide) rfl (fun ls hl => ?_)
  refine lv_lload_n hx hb dX6_kindHere_5 rfl (lv_at hl 0 rfl) ?_
  refine lv_ldc2 (v := 277893) hx hb hown (hts _ ckX6_232) dX6_kindHere_6 ?_
  refine W.lcmp hx hb dX6_kindHere_9 ?_
  refine lv_if_ne (tgt := 17) hx hb dX6_kindHere_10 (by decide) (fun c10 => ?_) (fun c10 => ?_)
  · have c10 := fun h => c10 ((lg_cmp_eq _ _).mpr h)
    have k0 : ¬ zIs (g 6) n y (zNm 0) := fun h => c10 ((zWc (i := 0) (by decide) zwc0).mpr h)
    refine lv_lload_n hx hb dX6_kindHere_17 rfl (lv_at hl 0 rfl) ?_
    refine lv_ldc2 (v := 67208) hx hb hown (hts _ ckX6_234) dX6_kindHere_18 ?_
    refine W.lcmp hx hb dX6_kindHere_21 ?_
    refine lv_if_ne (tgt := 29) hx hb dX6_kindHere_22 (by decide) (fun c22 => ?_) (fun c22 => ?_)
    · have c22 := fun h => c22 ((lg_cmp_eq _ _).mpr h)
      have k1 : ¬ zIs (g 6) n y (zNm 1) := fun h => c22 ((zWc (i := 1) (by decide) zwc1).mpr h)
      refine lv_lload_n hx hb dX6_kindHere_29 rfl (lv_at hl 0 rfl) ?_
      refine lv_ldc2 (v := 3736683) hx hb hown (hts _ ckX6_236) dX6_kindHere_30 ?_
      refine W.lcmp hx hb dX6_kindHere_33 ?_
      refine lv_if_ne (tgt := 41) hx hb dX6_kindHere_34 (by decide) (fun c34 => ?_) (fun c34 => ?_)
      · have c34 := fun h => c34 ((lg_cmp_eq _ _).mpr h)
        have k2 : ¬ zIs (g 6) n y (zNm 2) := fun h => c34 ((zWc (i := 2) (by decide) zwc2).mpr h)
        refine lv_lload_n hx hb dX6_kindHere_41 rfl (lv_at hl 0 rfl) ?_
        refine lv_ldc2 (v := 10986964) hx hb hown (hts _ ckX6_238) dX6_kindHere_42 ?_
        refine W.lcmp hx hb dX6_kindHere_45 ?_
        refine lv_if_ne (tgt := 53) hx hb dX6_kindHere_46 (by decide) (fun c46 => ?_) (fun c46 => ?_)
        · have c46 := fun h => c46 ((lg_cmp_eq _ _).mpr h)
          have k3 : ¬ zIs (g 6) n y (zNm 3) := fun h => c46 ((zWc (i := 3) (by decide) zwc3).mpr h)
          refine lv_lload_n hx hb dX6_kindHere_53 rfl (lv_at hl 0 rfl) ?_
          refine lv_ldc2 (v := 152683) hx hb hown (hts _ ckX6_240) dX6_kindHere_54 ?_
          refine W.lcmp hx hb dX6_kindHere_57 ?_
          refine lv_if_ne (tgt := 65) hx hb dX6_kindHere_58 (by decide) (fun c58 => ?_) (fun c58 => ?_)
          · have c58 := fun h => c58 ((lg_cmp_eq _ _).mpr h)
            have k4 : ¬ zIs (g 6) n y (zNm 4) := fun h => c58 ((zWc (i := 4) (by decide) zwc4).mpr h)
            refine lv_lload_n hx hb dX6_kindHere_65 rfl (lv_at hl 0 rfl) ?_
            refine lv_ldc2 (v := 627757) hx hb hown (hts _ ckX6_242) dX6_kindHere_66 ?_
            refine W.lcmp hx hb dX6_kindHere_69 ?_
            refine lv_if_ne (tgt := 77) hx hb dX6_kindHere_70 (by decide) (fun c70 => ?_) (fun c70 => ?_)
            · have c70 := fun h => c70 ((lg_cmp_eq _ _).mpr h)
              have k5 : ¬ zIs (g 6) n y (zNm 5) := fun h => c70 ((zWc (i := 5) (by decide) zwc5).mpr h)
              refine lv_iconst (v := (-1)) hx hb dX6_kindHere_77 (by decide) ?_
              exact zFG.iret hx hb hr hlocks hQ hw rfl dX6_kindHere_78 ⟨zsi (by unfold zKn; rw [show zKi (g 6) n y 6 0 = 6 from (zKi_s k0).trans ((zKi_s k1).trans ((zKi_s k2).trans ((zKi_s k3).trans ((zKi_s k4).trans ((zKi_s k5).trans (rfl))))))]; rfl), rfl⟩
            · have c70 := (lg_cmp_eq _ _).mp c70
              have k5 := (zWc (i := 5) (by decide) zwc5).mp c70
              refine lv_iconst (v := 5) hx hb dX6_kindHere_73 (by decide) ?_
              refine lv_goto (tgt := 78) hx hb dX6_kindHere_74 (by decide) ?_
              exact zFG.iret hx hb hr hlocks hQ hw rfl dX6_kindHere_78 ⟨zsi (by unfold zKn; rw [show zKi (g 6) n y 6 0 = 5 from (zKi_s k0).trans ((zKi_s k1).trans ((zKi_s k2).trans ((zKi_s k3).trans ((zKi_s k4).trans (zKi_t k5)))))]; rfl), rfl⟩
          · have c58 := (lg_cmp_eq _ _).mp c58
            have k4 := (zWc (i := 4) (by decide) zwc4).mp c58
            refine lv_iconst (v := 4) hx hb dX6_kindHere_61 (by decide) ?_
            refine lv_goto (tgt := 78) hx hb dX6_kindHere_62 (by decide) ?_
            exact zFG.iret hx hb hr hlocks hQ hw rfl dX6_kindHere_78 ⟨zsi (by unfold zKn; rw [show zKi (g 6) n y 6 0 = 4 from (zKi_s k0).trans ((zKi_s k1).trans ((zKi_s k2).trans ((zKi_s k3).trans (zKi_t k4))))]; rfl), rfl⟩
        · have c46 := (lg_cmp_eq _ _).mp c46
          have k3 := (zWc (i := 3) (by decide) zwc3).mp c46
          refine lv_iconst (v := 3) hx hb dX6_kindHere_49 (by decide) ?_
          refine lv_goto (tgt := 78) hx hb dX6_kindHere_50 (by decide) ?_
          exact zFG.iret hx hb hr hlocks hQ hw rfl dX6_kindHere_78 ⟨zsi (by unfold zKn; rw [show zKi (g 6) n y 6 0 = 3 from (zKi_s k0).trans ((zKi_s k1).trans ((zKi_s k2).trans (zKi_t k3)))]; rfl), rfl⟩
      · have c34 := (lg_cmp_eq _ _).mp c34
        have k2 := (zWc (i := 2) (by decide) zwc2).mp c34
        refine lv_iconst (v := 2) hx hb dX6_kindHere_37 (by decide) ?_
        refine lv_goto (tgt := 78) hx hb dX6_kindHere_38 (by decide) ?_
        exact zFG.iret hx hb hr hlocks hQ hw rfl dX6_kindHere_78 ⟨zsi (by unfold zKn; rw [show zKi (g 6) n y 6 0 = 2 from (zKi_s k0).trans ((zKi_s k1).trans (zKi_t k2))]; rfl), rfl⟩
    · have c22 := (lg_cmp_eq _ _).mp c22
      have k1 := (zWc (i := 1) (by decide) zwc1).mp c22
      refine lv_iconst (v := 1) hx hb dX6_kindHere_25 (by decide) ?_
      refine lv_goto (tgt := 78) hx hb dX6_kindHere_26 (by decide) ?_
      exact zFG.iret hx hb hr hlocks hQ hw rfl dX6_kindHere_78 ⟨zsi (by unfold zKn; rw [show zKi (g 6) n y 6 0 = 1 from (zKi_s k0).trans (zKi_t k1)]; rfl), rfl⟩
  · have c10 := (lg_cmp_eq _ _).mp c10
    have k0 := (zWc (i := 0) (by decide) zwc0).mp c10
    refine lv_iconst (v := 0) hx hb dX6_kindHere_13 (by decide) ?_
    refine lv_goto (tgt := 78) hx hb dX6_kindHere_14 (by decide) ?_
    exact zFG.iret hx hb hr hlocks hQ hw rfl dX6_kindHere_78 ⟨zsi (by unfold zKn; rw [show zKi (g 6) n y 6 0 = 0 from zKi_t k0]; rfl), rfl⟩

set_option maxHeartbeats 4000000 in
set_option maxRecDepth 100000 in
theorem c_X6_partItem_w (x : zX) (a : Nat → Nat) (g : zT) (nu : Nat → Nat → Int64) (S : zT) (n y : Nat) (q0 v : Int32) (hn : n ≤ 120) (hy : y ≤ n) (i : Nat) (hi : i < 16) (nm : Int64) (hc : lN (zNv (zNm i)) = nm) (wi : Nat) (most : Int32) : zFF x mX6_partItem 5 [.ref (a 0), .long nm, .int (nI wi), .int most] (zMW x a (zTq (g 6) n y q0 v 1) g nu (zflat S)) none (zMW x a (zTq (g 6) n y q0 v 1) g nu (zflat S)) := by
  refine zFG.start RX6 cX6_partItem 5 none rfl rfl (by decide +kernel) (Nat.le_of_ble_eq_true rfl) ?_
  intro p e s m ar below meth c ls A Q hx hb hr hml hown hts hlocks hK hE hA hQ hl hw
  have hl : lv_has ls 5 [(0, .ref (a 0)), (1, .long nm), (3, .int (nI wi)), (4, .int most)] := hl
  have hw : zHw x A s.heap (zMW x a (zTq (g 6) n y q0 v 1) g nu (zflat S)) s.heap [] := hw
  refine lv_aload_n hx hb dX6_partItem_0 rfl (lv_at hl 0 rfl) ?_
  refine zcVwl (r := 0) hx hb hml hown hts hl.1 hK hE hA lkX6_228 (c_X6_word_1 x a g nu (zflat S) n y q0 v hn hy) ⟨Nat.le_of_ble_eq_true rfl, Nat.le_of_ble_eq_true rfl⟩ ⟨Nat.zero_le _, Nat.zero_le _⟩ hw 0 4 rfl rfl rfl rfl (Nat.le_of_ble_eq_true rfl) dX6_partItem_1 (fun H locs hw => ?_)
  have hw : zHw x A s.heap (zMW x a (zTq (g 6) n y q0 v 1) g nu (zflat S)) H locs := hw
  refine lv_lload_n hx hb dX6_partItem_4 rfl (lv_at hl 1 rfl) ?_
  refine W.lcmp hx hb dX6_partItem_5 ?_
  refine lv_if_ne (tgt := 47) hx hb dX6_partItem_6 (by decide) (fun c6 => ?_) (fun c6 => absurd c6 (fun h => zWnz hi hc ((lg_cmp_eq _ _).mp h)))
  exact zFG.vret hx hb hr hlocks hQ hw rfl dX6_partItem_47 ⟨rfl, rfl⟩

set_option maxHeartbeats 4000000 in
set_option maxRecDepth 100000 in
theorem c_X6_partItem (x : zX) (a : Nat → Nat) (g : zT) (nu : Nat → Nat → Int64) (S : zT) (n y : Nat) (q0 v : Int32) (hn : n ≤ 120) (hy : y ≤ n) (i : Nat) (hi : i < 16) (nm : Int64) (hc : lN (zNv (zNm i)) = nm) (wi : Nat) (hwi : wi < 67) (cc j : Nat) (hu : ∀ z, upd (zflat S) wi z = zflat (zU S cc j z)) (most : Nat) (hmo : most ≤ 9999) : zFG x mX6_partItem 5 [.ref (a 0), .long nm, .int (nI wi), .int (nI most)] (zMW x a (zTq (g 6) n y q0 v 0) g nu (zflat S)) (fun v' u' => v' = none ∧ zPR x a g nu n q0 (zPa (g 6) n y (zNm i) most S cc j) u') := by
  refine zFG.start RX6 cX6_partItem 5 none rfl rfl (by decide +kernel) (Nat.le_of_ble_eq_true rfl) ?_
  intro p e s m ar below meth c ls A Q hx hb hr hml hown hts hlocks hK hE hA hQ hl hw
  have hl : lv_has ls 5 [(0, .ref (a 0)), (1, .long nm), (3, .int (nI wi)), (4, .int (nI most))] := hl
  have hw : zHw x A s.heap (zMW x a (zTq (g 6) n y q0 v 0) g nu (zflat S)) s.heap [] := hw
  refine lv_aload_n hx hb dX6_partItem_0 rfl (lv_at hl 0 rfl) ?_
  rcases Decidable.em (zIs (g 6) n y (zNm i)) with his | his
  · refine zcVwl (r := lN (zWv (g 6) n y)) hx hb hml hown hts hl.1 hK hE hA lkX6_228 (c_X6_word_0 x a g nu (zflat S) n y q0 v hn hy) ⟨Nat.le_of_ble_eq_true rfl, Nat.le_of_ble_eq_true rfl⟩ ⟨Nat.zero_le _, Nat.zero_le _⟩ hw 0 4 rfl rfl rfl rfl (Nat.le_of_ble_eq_true rfl) dX6_partItem_1 (fun H locs hw => ?_)
    have hw : zHw x A s.heap (zMW x a (zTq (g 6) n y q0 v 0) g nu (zflat S)) H locs := hw
    refine lv_lload_n hx hb dX6_partItem_4 rfl (lv_at hl 1 rfl) ?_
    refine W.lcmp hx hb dX6_partItem_5 ?_
    refine lv_if_ne (tgt := 47) hx hb dX6_partItem_6 (by decide) (fun c6 => absurd c6 (fun h => h ((lg_cmp_eq _ _).mpr ((zWc hi hc).mpr his)))) (fun c6 => ?_)
    refine lv_aload_n hx hb dX6_partItem_9 rfl (lv_at hl 0 rfl) ?_
    refine lv_iconst (v := 1) hx hb dX6_partItem_10 (by decide) ?_
    refine zcVwv hx hb hml hown hts hl.1 hK hE hA lkX6_224 (c_X6_must_t x a g nu (zflat S) n y q0 v hn hy) ⟨Nat.le_of_ble_eq_true rfl, Nat.le_of_ble_eq_true rfl⟩ ⟨Nat.zero_le _, Nat.zero_le _⟩ hw 0 4 rfl rfl rfl rfl (Nat.le_of_ble_eq_true rfl) dX6_partItem_11 (fun H locs hw => ?_)
    have hw : zHw x A s.heap (zMW x a (zTq (g 6) n (zNx (g 6) n y) q0 v 0) g nu (zflat S)) H locs := hw
    rcases hz : zNu (g 6) n (zNx (g 6) n y) most with _ | z
    · refine lv_aload_n hx hb dX6_partItem_14 rfl (lv_at hl 0 rfl) ?_
      refine lv_iconst (v := 0) hx hb dX6_partItem_15 (by decide) ?_
      refine lv_iload hx hb dX6_partItem_16 (lv_at hl 3 rfl) ?_
      refine zcVw hx hb hml hown hts hl.1 hK hE hA lkX6_244 (c_X6_number x a g nu (zflat S) n (zNx (g 6) n y) q0 v hn (zNx_le hy) most (by first | decide | assumption)) ⟨Nat.le_of_ble_eq_true rfl, Nat.le_of_ble_eq_true rfl⟩ ⟨Nat.zero_le _, Nat.zero_le _⟩ hw 0 4 rfl rfl rfl rfl (Nat.le_of_ble_eq_true rfl) dX6_partItem_18 (fun vv uu H locs hp hw => ?_)
      obtain ⟨rfl, v2, hp2⟩ := hp
      rw [hz] at hp2
      subst hp2
      refine W.eq (g2 := F0 m 21 ls []) rfl ?_
      have hw : zHw x A s.heap (zMW x a (zTq (g 6) n (zNx (g 6) n y) q0 v2 1) g nu (zflat S)) H locs := hw
      refine lv_aload_n hx hb dX6_partItem_21 rfl (lv_at hl 0 rfl) ?_
      refine gfX6_7 hx hb hown hts hK hw 0 rfl rfl dX6_partItem_22 ?_
      refine lv_iload_n hx hb dX6_partItem_25 rfl (lv_at hl 2 rfl) ?_
      refine lv_aload_n hx hb dX6_partItem_26 rfl (lv_at hl 0 rfl) ?_
      refine gfX6_210 hx hb hown hts hK hw 0 rfl rfl dX6_partItem_27 ?_
      refine W.eq (g2 := F0 m 30 ls [.int 1, .int (nI wi), .ref (a 1)]) (by rfl) ?_
      refine lv_if_eq (tgt := 42) hx hb dX6_partItem_30 (by decide) (fun c30 => absurd c30 (by decide)) (fun c30 => ?_)
      refine lv_aload_n hx hb dX6_partItem_33 rfl (lv_at hl 0 rfl) ?_
      refine gfX6_7 hx hb hown hts hK hw 0 rfl rfl dX6_partItem_34 ?_
      refine lv_iload_n hx hb dX6_partItem_37 rfl (lv_at hl 2 rfl) ?_
      refine zial hx hb hK hw 1 0 wi rfl rfl rfl hwi (by decide) dX6_partItem_38 ?_
      refine lv_goto (tgt := 46) hx hb dX6_partItem_39 (by decide) ?_
      refine zias hx hb hK hw 1 0 wi rfl rfl rfl hwi (by decide) dX6_partItem_46 (fun H locs hw => ?_)
      have hw : zHw x A s.heap (zMW x a (zTq (g 6) n (zNx (g 6) n y) q0 v2 1) g nu (upd (zflat S) wi ((zflat S) wi))) H locs := hw
      exact zFG.vret hx hb hr hlocks hQ hw rfl dX6_partItem_47 ⟨rfl, v2, S, by rw [show zPa (g 6) n y (zNm i) most S cc j = _ from (if_pos his).trans (by rw [hz]), zupd_self]⟩
    · refine lv_aload_n hx hb dX6_partItem_14 rfl (lv_at hl 0 rfl) ?_
      refine lv_iconst (v := 0) hx hb dX6_partItem_15 (by decide) ?_
      refine lv_iload hx hb dX6_partItem_16 (lv_at hl 3 rfl) ?_
      refine zcVw hx hb hml hown hts hl.1 hK hE hA lkX6_244 (c_X6_number x a g nu (zflat S) n (zNx (g 6) n y) q0 v hn (zNx_le hy) most (by first | decide | assumption)) ⟨Nat.le_of_ble_eq_true rfl, Nat.le_of_ble_eq_true rfl⟩ ⟨Nat.zero_le _, Nat.zero_le _⟩ hw 0 4 rfl rfl rfl rfl (Nat.le_of_ble_eq_true rfl) dX6_partItem_18 (fun vv uu H locs hp hw => ?_)
      obtain ⟨rfl, v2, hp2⟩ := hp
      rw [hz] at hp2
      subst hp2
      refine W.eq (g2 := F0 m 21 ls []) rfl ?_
      have hw : zHw x A s.heap (zMW x a (zTq (g 6) n (zNx (g 6) n (zNx (g 6) n y)) q0 (nI z) 0) g nu (zflat S)) H locs := hw
      refine lv_aload_n hx hb dX6_partItem_21 rfl (lv_at hl 0 rfl) ?_
      refine gfX6_7 hx hb hown hts hK hw 0 rfl rfl dX6_partItem_22 ?_
      refine lv_iload_n hx hb dX6_partItem_25 rfl (lv_at hl 2 rfl) ?_
      refine lv_aload_n hx hb dX6_partItem_26 rfl (lv_at hl 0 rfl) ?_
      refine gfX6_210 hx hb hown hts hK hw 0 rfl rfl dX6_partItem_27 ?_
      refine W.eq (g2 := F0 m 30 ls [.int 0, .int (nI wi), .ref (a 1)]) (by rfl) ?_
      refine lv_if_eq (tgt := 42) hx hb dX6_partItem_30 (by decide) (fun c30 => ?_) (fun c30 => absurd (by decide) c30)
      refine lv_aload_n hx hb dX6_partItem_42 rfl (lv_at hl 0 rfl) ?_
      refine gfX6_221 hx hb hown hts hK hw 0 rfl rfl dX6_partItem_43 ?_
      refine W.eq (g2 := F0 m 46 ls [.int (nI z), .int (nI wi), .ref (a 1)]) (by rfl) ?_
      refine zias hx hb hK hw 1 0 wi rfl rfl rfl hwi (by decide) dX6_partItem_46 (fun H locs hw => ?_)
      have hw : zHw x A s.heap (zMW x a (zTq (g 6) n (zNx (g 6) n (zNx (g 6) n y)) q0 (nI z) 0) g nu (upd (zflat S) wi (nI z))) H locs := hw
      exact zFG.vret hx hb hr hlocks hQ hw rfl dX6_partItem_47 ⟨rfl, nI z, S, by rw [show zPa (g 6) n y (zNm i) most S cc j = _ from (if_pos his).trans (by rw [hz]), hu]⟩
  · refine zcVwl (r := lN (zWv (g 6) n y)) hx hb hml hown hts hl.1 hK hE hA lkX6_228 (c_X6_word_0 x a g nu (zflat S) n y q0 v hn hy) ⟨Nat.le_of_ble_eq_true rfl, Nat.le_of_ble_eq_true rfl⟩ ⟨Nat.zero_le _, Nat.zero_le _⟩ hw 0 4 rfl rfl rfl rfl (Nat.le_of_ble_eq_true rfl) dX6_partItem_1 (fun H locs hw => ?_)
    have hw : zHw x A s.heap (zMW x a (zTq (g 6) n y q0 v 0) g nu (zflat S)) H locs := hw
    refine lv_lload_n hx hb dX6_partItem_4 rfl (lv_at hl 1 rfl) ?_
    refine W.lcmp hx hb dX6_partItem_5 ?_
    refine lv_if_ne (tgt := 47) hx hb dX6_partItem_6 (by decide) (fun c6 => ?_) (fun c6 => absurd c6 (fun h => his ((zWc hi hc).mp ((lg_cmp_eq _ _).mp h))))
    exact zFG.vret hx hb hr hlocks hQ hw rfl dX6_partItem_47 ⟨rfl, v, S, by rw [show zPa (g 6) n y (zNm i) most S cc j = _ from if_neg his]⟩

set_option maxHeartbeats 4000000 in
set_option maxRecDepth 100000 in
theorem c_X6_wordItem_w (x : zX) (a : Nat → Nat) (g : zT) (nu : Nat → Nat → Int64) (S : zT) (n y : Nat) (q0 v : Int32) (hn : n ≤ 120) (hy : y ≤ n) (i : Nat) (hi : i < 16) (nm : Int64) (hc : lN (zNv (zNm i)) = nm) (wi : Nat) (z : Int32) : zFF x mX6_wordItem 4 [.ref (a 0), .long nm, .int (nI wi), .int z] (zMW x a (zTq (g 6) n y q0 v 1) g nu (zflat S)) none (zMW x a (zTq (g 6) n y q0 v 1) g nu (zflat S)) := by
  refine zFG.start RX6 cX6_wordItem 5 none rfl rfl (by decide +kernel) (Nat.le_of_ble_eq_true rfl) ?_
  intro p e s m ar below meth c ls A Q hx hb hr hml hown hts hlocks hK hE hA hQ hl hw
  have hl : lv_has ls 5 [(0, .ref (a 0)), (1, .long nm), (3, .int (nI wi)), (4, .int z)] := hl
  have hw : zHw x A s.heap (zMW x a (zTq (g 6) n y q0 v 1) g nu (zflat S)) s.heap [] := hw
  refine lv_aload_n hx hb dX6_wordItem_0 rfl (lv_at hl 0 rfl) ?_
  refine gfX6_210 hx hb hown hts hK hw 0 rfl rfl dX6_wordItem_1 ?_
  refine W.eq (g2 := F0 m 4 ls [.int 1]) (by rfl) ?_
  refine lv_if_ne (tgt := 29) hx hb dX6_wordItem_4 (by decide) (fun c4 => ?_) (fun c4 => absurd c4 (by decide))
  exact zFG.vret hx hb hr hlocks hQ hw rfl dX6_wordItem_29 ⟨rfl, rfl⟩

set_option maxHeartbeats 4000000 in
set_option maxRecDepth 100000 in
theorem c_X6_wordItem (x : zX) (a : Nat → Nat) (g : zT) (nu : Nat → Nat → Int64) (S : zT) (n y : Nat) (q0 v : Int32) (hn : n ≤ 120) (hy : y ≤ n) (i : Nat) (hi : i < 16) (nm : Int64) (hc : lN (zNv (zNm i)) = nm) (wi : Nat) (hwi : wi < 67) (cc j : Nat) (hu : ∀ z, upd (zflat S) wi z = zflat (zU S cc j z)) (z : Int32) : zFF x mX6_wordItem 4 [.ref (a 0), .long nm, .int (nI wi), .int z] (zMW x a (zTq (g 6) n y q0 v 0) g nu (zflat S)) none (zMW x a (zTq (g 6) n ((zWi (g 6) n y (zNm i) S cc j z).1) q0 v 0) g nu (zflat ((zWi (g 6) n y (zNm i) S cc j z).2))) := by
  refine zFG.start RX6 cX6_wordItem 5 none rfl rfl (by decide +kernel) (Nat.le_of_ble_eq_true rfl) ?_
  intro p e s m ar below meth c ls A Q hx hb hr hml hown hts hlocks hK hE hA hQ hl hw
  have hl : lv_has ls 5 [(0, .ref (a 0)), (1, .long nm), (3, .int (nI wi)), (4, .int z)] := hl
  have hw : zHw x A s.heap (zMW x a (zTq (g 6) n y q0 v 0) g nu (zflat S)) s.heap [] := hw
  refine lv_aload_n hx hb dX6_wordItem_0 rfl (lv_at hl 0 rfl) ?_
  rcases Decidable.em (zIs (g 6) n y (zNm i)) with his | his
  · refine gfX6_210 hx hb hown hts hK hw 0 rfl rfl dX6_wordItem_1 ?_
    refine W.eq (g2 := F0 m 4 ls [.int 0]) (by rfl) ?_
    refine lv_if_ne (tgt := 29) hx hb dX6_wordItem_4 (by decide) (fun c4 => absurd c4 (by decide)) (fun c4 => ?_)
    refine lv_aload_n hx hb dX6_wordItem_7 rfl (lv_at hl 0 rfl) ?_
    refine zcVwl (r := lN (zWv (g 6) n y)) hx hb hml hown hts hl.1 hK hE hA lkX6_228 (c_X6_word_0 x a g nu (zflat S) n y q0 v hn hy) ⟨Nat.le_of_ble_eq_true rfl, Nat.le_of_ble_eq_true rfl⟩ ⟨Nat.zero_le _, Nat.zero_le _⟩ hw 0 4 rfl rfl rfl rfl (Nat.le_of_ble_eq_true rfl) dX6_wordItem_8 (fun H locs hw => ?_)
    have hw : zHw x A s.heap (zMW x a (zTq (g 6) n y q0 v 0) g nu (zflat S)) H locs := hw
    refine lv_lload_n hx hb dX6_wordItem_11 rfl (lv_at hl 1 rfl) ?_
    refine W.lcmp hx hb dX6_wordItem_12 ?_
    refine lv_if_ne (tgt := 29) hx hb dX6_wordItem_13 (by decide) (fun c13 => absurd c13 (fun h => h ((lg_cmp_eq _ _).mpr ((zWc hi hc).mpr his)))) (fun c13 => ?_)
    refine lv_aload_n hx hb dX6_wordItem_16 rfl (lv_at hl 0 rfl) ?_
    refine lv_iconst (v := 1) hx hb dX6_wordItem_17 (by decide) ?_
    refine zcVwv hx hb hml hown hts hl.1 hK hE hA lkX6_224 (c_X6_must_t x a g nu (zflat S) n y q0 v hn hy) ⟨Nat.le_of_ble_eq_true rfl, Nat.le_of_ble_eq_true rfl⟩ ⟨Nat.zero_le _, Nat.zero_le _⟩ hw 0 4 rfl rfl rfl rfl (Nat.le_of_ble_eq_true rfl) dX6_wordItem_18 (fun H locs hw => ?_)
    have hw : zHw x A s.heap (zMW x a (zTq (g 6) n (zNx (g 6) n y) q0 v 0) g nu (zflat S)) H locs := hw
    refine lv_aload_n hx hb dX6_wordItem_21 rfl (lv_at hl 0 rfl) ?_
    refine gfX6_7 hx hb hown hts hK hw 0 rfl rfl dX6_wordItem_22 ?_
    refine lv_iload_n hx hb dX6_wordItem_25 rfl (lv_at hl 2 rfl) ?_
    refine lv_iload hx hb dX6_wordItem_26 (lv_at hl 3 rfl) ?_
    refine zias hx hb hK hw 1 0 wi rfl rfl rfl hwi (by decide) dX6_wordItem_28 (fun H locs hw => ?_)
    have hw : zHw x A s.heap (zMW x a (zTq (g 6) n (zNx (g 6) n y) q0 v 0) g nu (upd (zflat S) wi z)) H locs := hw
    exact zFG.vret hx hb hr hlocks hQ hw rfl dX6_wordItem_29 ⟨rfl, by rw [show zWi (g 6) n y (zNm i) S cc j z = _ from if_pos his, ← hu]⟩
  · refine gfX6_210 hx hb hown hts hK hw 0 rfl rfl dX6_wordItem_1 ?_
    refine W.eq (g2 := F0 m 4 ls [.int 0]) (by rfl) ?_
    refine lv_if_ne (tgt := 29) hx hb dX6_wordItem_4 (by decide) (fun c4 => absurd c4 (by decide)) (fun c4 => ?_)
    refine lv_aload_n hx hb dX6_wordItem_7 rfl (lv_at hl 0 rfl) ?_
    refine zcVwl (r := lN (zWv (g 6) n y)) hx hb hml hown hts hl.1 hK hE hA lkX6_228 (c_X6_word_0 x a g nu (zflat S) n y q0 v hn hy) ⟨Nat.le_of_ble_eq_true rfl, Nat.le_of_ble_eq_true rfl⟩ ⟨Nat.zero_le _, Nat.zero_le _⟩ hw 0 4 rfl rfl rfl rfl (Nat.le_of_ble_eq_true rfl) dX6_wordItem_8 (fun H locs hw => ?_)
    have hw : zHw x A s.heap (zMW x a (zTq (g 6) n y q0 v 0) g nu (zflat S)) H locs := hw
    refine lv_lload_n hx hb dX6_wordItem_11 rfl (lv_at hl 1 rfl) ?_
    refine W.lcmp hx hb dX6_wordItem_12 ?_
    refine lv_if_ne (tgt := 29) hx hb dX6_wordItem_13 (by decide) (fun c13 => ?_) (fun c13 => absurd c13 (fun h => his ((zWc hi hc).mp ((lg_cmp_eq _ _).mp h))))
    exact zFG.vret hx hb hr hlocks hQ hw rfl dX6_wordItem_29 ⟨rfl, by rw [show zWi (g 6) n y (zNm i) S cc j z = _ from if_neg his]⟩

set_option maxHeartbeats 4000000 in
set_option maxRecDepth 100000 in
theorem c_X6_holeItem (x : zX) (a : Nat → Nat) (g : zT) (nu : Nat → Nat → Int64) (S : zT) (n y : Nat) (q0 v : Int32) (hn : n ≤ 120) (hy : y ≤ n) (k : Nat) (hI : zInv S) : zFG x mX6_holeItem 6 [.ref (a 0), .int (nI k)] (zMW x a (zTq (g 6) n y q0 v 0) g nu (zflat S)) (fun v' u' => v' = none ∧ zPR x a g nu n q0 (zHo (g 6) n y S k) u') := by
  refine zFG.start RX6 cX6_holeItem 3 none rfl rfl (by decide +kernel) (Nat.le_of_ble_eq_true rfl) ?_
  intro p e s m ar below meth c ls A Q hx hb hr hml hown hts hlocks hK hE hA hQ hl hw
  have hl : lv_has ls 3 [(0, .ref (a 0)), (1, .int (nI k))] := hl
  have hw : zHw x A s.heap (zMW x a (zTq (g 6) n y q0 v 0) g nu (zflat S)) s.heap [] := hw
  refine lv_aload_n hx hb dX6_holeItem_0 rfl (lv_at hl 0 rfl) ?_
  refine lv_aload_n hx hb dX6_holeItem_1 rfl (lv_at hl 0 rfl) ?_
  refine gfX6_7 hx hb hown hts hK hw 0 rfl rfl dX6_holeItem_2 ?_
  refine lv_iconst (v := 0) hx hb dX6_holeItem_5 (by decide) ?_
  refine zial2 (v := S 0 0) hx hb hK hw 1 0 0 rfl rfl rfl (by decide) (by decide) dX6_holeItem_6 rfl ?_
  refine lv_bipush (v := 8) hx hb dX6_holeItem_7 (by decide) ?_
  refine lv_icmp_ge (tgt := 16) hx hb dX6_holeItem_9 (by decide) (fun c9 => ?_) (fun c9 => ?_)
  · refine lv_iconst (v := 0) hx hb dX6_holeItem_16 (by decide) ?_
    refine zcVwv hx hb hml hown hts hl.1 hK hE hA lkX6_224 (c_X6_must_f x a g nu (zflat S) n y q0 v hn hy) ⟨Nat.le_of_ble_eq_true rfl, Nat.le_of_ble_eq_true rfl⟩ ⟨Nat.zero_le _, Nat.zero_le _⟩ hw 0 4 rfl rfl rfl rfl (Nat.le_of_ble_eq_true rfl) dX6_holeItem_17 (fun H locs hw => ?_)
    have hw : zHw x A s.heap (zMW x a (zTq (g 6) n y q0 v 1) g nu (zflat S)) H locs := hw
    refine lv_aload_n hx hb dX6_holeItem_20 rfl (lv_at hl 0 rfl) ?_
    refine gfX6_210 hx hb hown hts hK hw 0 rfl rfl dX6_holeItem_21 ?_
    refine W.eq (g2 := F0 m 24 ls [.int 1]) (by rfl) ?_
    refine lv_if_eq (tgt := 28) hx hb dX6_holeItem_24 (by decide) (fun c24 => absurd c24 (by decide)) (fun c24 => ?_)
    exact zFG.vret hx hb hr hlocks hQ hw rfl dX6_holeItem_27 ⟨rfl, v, S, by rw [show zHo (g 6) n y S k = _ from if_neg (Int32.not_lt.mpr c9)]⟩
  · have h8 : S 0 0 < 8 := Int32.not_le.mp c9
    have hz0 := zN_0 hI
    have hz8 : zN S < 8 := by
      rw [hz0] at h8
      exact (nI_ltI (b := 8) (by have := zN_le hI; omega) (by decide)).mp h8
    refine lv_iconst (v := 1) hx hb dX6_holeItem_12 (by decide) ?_
    refine lv_goto (tgt := 17) hx hb dX6_holeItem_13 (by decide) ?_
    refine zcVwv hx hb hml hown hts hl.1 hK hE hA lkX6_224 (c_X6_must_t x a g nu (zflat S) n y q0 v hn hy) ⟨Nat.le_of_ble_eq_true rfl, Nat.le_of_ble_eq_true rfl⟩ ⟨Nat.zero_le _, Nat.zero_le _⟩ hw 0 4 rfl rfl rfl rfl (Nat.le_of_ble_eq_true rfl) dX6_holeItem_17 (fun H locs hw => ?_)
    have hw : zHw x A s.heap (zMW x a (zTq (g 6) n (zNx (g 6) n y) q0 v 0) g nu (zflat S)) H locs := hw
    refine lv_aload_n hx hb dX6_holeItem_20 rfl (lv_at hl 0 rfl) ?_
    refine gfX6_210 hx hb hown hts hK hw 0 rfl rfl dX6_holeItem_21 ?_
    refine W.eq (g2 := F0 m 24 ls [.int 0]) (by rfl) ?_
    refine lv_if_eq (tgt := 28) hx hb dX6_holeItem_24 (by decide) (fun c24 => ?_) (fun c24 => absurd (by decide) c24)
    refine lv_aload_n hx hb dX6_holeItem_28 rfl (lv_at hl 0 rfl) ?_
    refine lv_iload_n hx hb dX6_holeItem_29 rfl (lv_at hl 1 rfl) ?_
    refine lv_iconst (v := 0) hx hb dX6_holeItem_30 (by decide) ?_
    refine zcVwi (r := nI (zN S)) hx hb hml hown hts hl.1 hK hE hA lkX6_84 (c_X6_adds x a (zTq (g 6) n (zNx (g 6) n y) q0 v 0) g nu S (nI k) 0 hz0 hz8) ⟨Nat.le_of_ble_eq_true rfl, Nat.le_of_ble_eq_true rfl⟩ ⟨Nat.zero_le _, Nat.zero_le _⟩ hw 0 4 rfl rfl rfl rfl (Nat.le_of_ble_eq_true rfl) dX6_holeItem_31 (fun H locs hw => ?_)
    have hw : zHw x A s.heap (zMW x a (zTq (g 6) n (zNx (g 6) n y) q0 v 0) g nu (zflat (zAd S (nI k) 0))) H locs := hw
    refine lv_istore_n (lv' := [(2, .int (nI (zN S))), (0, .ref (a 0)), (1, .int (nI k))]) hx hb dX6_holeItem_34 rfl hl (by decide) rfl (fun ls hl => ?_)
    refine lv_aload_n hx hb dX6_holeItem_35 rfl (lv_at hl 1 rfl) ?_
    refine lv_ldc2 (v := 302) hx hb hown (hts _ ckX6_248) dX6_holeItem_36 ?_
    refine lv_iload_n hx hb dX6_holeItem_39 rfl (lv_at hl 0 rfl) ?_
    refine lv_iconst (v := 1) hx hb dX6_holeItem_40 (by decide) ?_
    refine zcSwi (r := nI (19 + 6 * (zN S) + 1)) hx hb hml hown hts hl.1 hK hE hA lkX6_52 (c_X6_spotOf x (zMW x a (zTq (g 6) n (zNx (g 6) n y) q0 v 0) g nu (zflat (zAd S (nI k) 0))) (zN S) 1) ⟨Nat.le_of_ble_eq_true rfl, Nat.le_of_ble_eq_true rfl⟩ ⟨Nat.zero_le _, Nat.zero_le _⟩ hw rfl rfl (Nat.le_of_ble_eq_true rfl) dX6_holeItem_41 (fun H locs hw => ?_)
    have hw : zHw x A s.heap (zMW x a (zTq (g 6) n (zNx (g 6) n y) q0 v 0) g nu (zflat (zAd S (nI k) 0))) H locs := hw
    rcases hz1 : zPa (g 6) n (zNx (g 6) n y) (zNm 6) 5 (zAd S (nI k) 0) 4 (zN S) with z1 | ⟨y1, S1⟩
    · have hqz1 : z1 ≤ n := zPa_i (zNx_le hy) hz1
      refine lv_iconst (v := 5) hx hb dX6_holeItem_44 (by decide) ?_
      refine zcVw hx hb hml hown hts hl.1 hK hE hA lkX6_250 (c_X6_partItem x a g nu (zAd S (nI k) 0) n (zNx (g 6) n y) q0 v hn (zNx_le hy) 6 (by decide) 302 zwc6 (19 + 6 * (zN S) + 1) (by omega) 4 (zN S) (fun z => zflat_uit _ z (by decide)) 5 (by decide)) ⟨Nat.le_of_ble_eq_true rfl, Nat.le_of_ble_eq_true rfl⟩ ⟨Nat.zero_le _, Nat.zero_le _⟩ hw 0 4 rfl rfl rfl rfl (Nat.le_of_ble_eq_true rfl) dX6_holeItem_45 (fun vv uu H locs hp hw => ?_)
      obtain ⟨rfl, v1, T1, hp2⟩ := hp
      rw [hz1] at hp2
      subst hp2
      refine W.eq (g2 := F0 m 48 ls []) rfl ?_
      have hw : zHw x A s.heap (zMW x a (zTq (g 6) n z1 q0 v1 1) g nu (zflat T1)) H locs := hw
      refine lv_aload_n hx hb dX6_holeItem_48 rfl (lv_at hl 1 rfl) ?_
      refine lv_ldc2 (v := 632645) hx hb hown (hts _ ckX6_254) dX6_holeItem_49 ?_
      refine lv_iload_n hx hb dX6_holeItem_52 rfl (lv_at hl 0 rfl) ?_
      refine lv_iconst (v := 2) hx hb dX6_holeItem_53 (by decide) ?_
      refine zcSwi (r := nI (19 + 6 * (zN S) + 2)) hx hb hml hown hts hl.1 hK hE hA lkX6_52 (c_X6_spotOf x (zMW x a (zTq (g 6) n z1 q0 v1 1) g nu (zflat T1)) (zN S) 2) ⟨Nat.le_of_ble_eq_true rfl, Nat.le_of_ble_eq_true rfl⟩ ⟨Nat.zero_le _, Nat.zero_le _⟩ hw rfl rfl (Nat.le_of_ble_eq_true rfl) dX6_holeItem_54 (fun H locs hw => ?_)
      have hw : zHw x A s.heap (zMW x a (zTq (g 6) n z1 q0 v1 1) g nu (zflat T1)) H locs := hw
      refine lv_bipush (v := 99) hx hb dX6_holeItem_57 (by decide) ?_
      refine zcVwv hx hb hml hown hts hl.1 hK hE hA lkX6_250 (c_X6_partItem_w x a g nu T1 n z1 q0 v1 hn hqz1 7 (by decide) 632645 zwc7 (19 + 6 * (zN S) + 2) 99) ⟨Nat.le_of_ble_eq_true rfl, Nat.le_of_ble_eq_true rfl⟩ ⟨Nat.zero_le _, Nat.zero_le _⟩ hw 0 4 rfl rfl rfl rfl (Nat.le_of_ble_eq_true rfl) dX6_holeItem_59 (fun H locs hw => ?_)
      have hw : zHw x A s.heap (zMW x a (zTq (g 6) n z1 q0 v1 1) g nu (zflat T1)) H locs := hw
      refine lv_aload_n hx hb dX6_holeItem_62 rfl (lv_at hl 1 rfl) ?_
      refine lv_ldc2 (v := 114052) hx hb hown (hts _ ckX6_256) dX6_holeItem_63 ?_
      refine lv_iload_n hx hb dX6_holeItem_66 rfl (lv_at hl 0 rfl) ?_
      refine lv_iconst (v := 3) hx hb dX6_holeItem_67 (by decide) ?_
      refine zcSwi (r := nI (19 + 6 * (zN S) + 3)) hx hb hml hown hts hl.1 hK hE hA lkX6_52 (c_X6_spotOf x (zMW x a (zTq (g 6) n z1 q0 v1 1) g nu (zflat T1)) (zN S) 3) ⟨Nat.le_of_ble_eq_true rfl, Nat.le_of_ble_eq_true rfl⟩ ⟨Nat.zero_le _, Nat.zero_le _⟩ hw rfl rfl (Nat.le_of_ble_eq_true rfl) dX6_holeItem_68 (fun H locs hw => ?_)
      have hw : zHw x A s.heap (zMW x a (zTq (g 6) n z1 q0 v1 1) g nu (zflat T1)) H locs := hw
      refine lv_iconst (v := 1) hx hb dX6_holeItem_71 (by decide) ?_
      refine zcVwv hx hb hml hown hts hl.1 hK hE hA lkX6_258 (c_X6_wordItem_w x a g nu T1 n z1 q0 v1 hn hqz1 8 (by decide) 114052 zwc8 (19 + 6 * (zN S) + 3) 1) ⟨Nat.le_of_ble_eq_true rfl, Nat.le_of_ble_eq_true rfl⟩ ⟨Nat.zero_le _, Nat.zero_le _⟩ hw 0 4 rfl rfl rfl rfl (Nat.le_of_ble_eq_true rfl) dX6_holeItem_72 (fun H locs hw => ?_)
      have hw : zHw x A s.heap (zMW x a (zTq (g 6) n z1 q0 v1 1) g nu (zflat T1)) H locs := hw
      refine lv_aload_n hx hb dX6_holeItem_75 rfl (lv_at hl 1 rfl) ?_
      refine lv_iload_n hx hb dX6_holeItem_76 rfl (lv_at hl 0 rfl) ?_
      refine lv_iconst (v := 3) hx hb dX6_holeItem_77 (by decide) ?_
      refine zcVwi (r := T1 6 (zN S)) hx hb hml hown hts hl.1 hK hE hA lkX6_74 (c_X6_its x a (zTq (g 6) n z1 q0 v1 1) g nu T1 (zN S) 3 (by omega) (by omega)) ⟨Nat.le_of_ble_eq_true rfl, Nat.le_of_ble_eq_true rfl⟩ ⟨Nat.zero_le _, Nat.zero_le _⟩ hw 0 4 rfl rfl rfl rfl (Nat.le_of_ble_eq_true rfl) dX6_holeItem_78 (fun H locs hw => ?_)
      have hw : zHw x A s.heap (zMW x a (zTq (g 6) n z1 q0 v1 1) g nu (zflat T1)) H locs := hw
      refine lv_if_ne (tgt := 97) hx hb dX6_holeItem_81 (by decide) (fun c81 => ?_) (fun c81 => ?_)
      · refine lv_aload_n hx hb dX6_holeItem_97 rfl (lv_at hl 1 rfl) ?_
        refine lv_ldc2 (v := 611783) hx hb hown (hts _ ckX6_263) dX6_holeItem_98 ?_
        refine lv_iload_n hx hb dX6_holeItem_101 rfl (lv_at hl 0 rfl) ?_
        refine lv_iconst (v := 5) hx hb dX6_holeItem_102 (by decide) ?_
        refine zcSwi (r := nI (19 + 6 * (zN S) + 5)) hx hb hml hown hts hl.1 hK hE hA lkX6_52 (c_X6_spotOf x (zMW x a (zTq (g 6) n z1 q0 v1 1) g nu (zflat T1)) (zN S) 5) ⟨Nat.le_of_ble_eq_true rfl, Nat.le_of_ble_eq_true rfl⟩ ⟨Nat.zero_le _, Nat.zero_le _⟩ hw rfl rfl (Nat.le_of_ble_eq_true rfl) dX6_holeItem_103 (fun H locs hw => ?_)
        have hw : zHw x A s.heap (zMW x a (zTq (g 6) n z1 q0 v1 1) g nu (zflat T1)) H locs := hw
        refine lv_iconst (v := 1) hx hb dX6_holeItem_106 (by decide) ?_
        refine zcVwv hx hb hml hown hts hl.1 hK hE hA lkX6_258 (c_X6_wordItem_w x a g nu T1 n z1 q0 v1 hn hqz1 10 (by decide) 611783 zwc10 (19 + 6 * (zN S) + 5) 1) ⟨Nat.le_of_ble_eq_true rfl, Nat.le_of_ble_eq_true rfl⟩ ⟨Nat.zero_le _, Nat.zero_le _⟩ hw 0 4 rfl rfl rfl rfl (Nat.le_of_ble_eq_true rfl) dX6_holeItem_107 (fun H locs hw => ?_)
        have hw : zHw x A s.heap (zMW x a (zTq (g 6) n z1 q0 v1 1) g nu (zflat T1)) H locs := hw
        exact zFG.vret hx hb hr hlocks hQ hw rfl dX6_holeItem_110 ⟨rfl, v1, T1, by rw [zHo_1 h8 hz1]⟩
      · refine lv_aload_n hx hb dX6_holeItem_84 rfl (lv_at hl 1 rfl) ?_
        refine lv_ldc2 (v := 8692) hx hb hown (hts _ ckX6_261) dX6_holeItem_85 ?_
        refine lv_iload_n hx hb dX6_holeItem_88 rfl (lv_at hl 0 rfl) ?_
        refine lv_iconst (v := 3) hx hb dX6_holeItem_89 (by decide) ?_
        refine zcSwi (r := nI (19 + 6 * (zN S) + 3)) hx hb hml hown hts hl.1 hK hE hA lkX6_52 (c_X6_spotOf x (zMW x a (zTq (g 6) n z1 q0 v1 1) g nu (zflat T1)) (zN S) 3) ⟨Nat.le_of_ble_eq_true rfl, Nat.le_of_ble_eq_true rfl⟩ ⟨Nat.zero_le _, Nat.zero_le _⟩ hw rfl rfl (Nat.le_of_ble_eq_true rfl) dX6_holeItem_90 (fun H locs hw => ?_)
        have hw : zHw x A s.heap (zMW x a (zTq (g 6) n z1 q0 v1 1) g nu (zflat T1)) H locs := hw
        refine lv_iconst (v := 2) hx hb dX6_holeItem_93 (by decide) ?_
        refine zcVwv hx hb hml hown hts hl.1 hK hE hA lkX6_258 (c_X6_wordItem_w x a g nu T1 n z1 q0 v1 hn hqz1 9 (by decide) 8692 zwc9 (19 + 6 * (zN S) + 3) 2) ⟨Nat.le_of_ble_eq_true rfl, Nat.le_of_ble_eq_true rfl⟩ ⟨Nat.zero_le _, Nat.zero_le _⟩ hw 0 4 rfl rfl rfl rfl (Nat.le_of_ble_eq_true rfl) dX6_holeItem_94 (fun H locs hw => ?_)
        have hw : zHw x A s.heap (zMW x a (zTq (g 6) n z1 q0 v1 1) g nu (zflat T1)) H locs := hw
        refine lv_aload_n hx hb dX6_holeItem_97 rfl (lv_at hl 1 rfl) ?_
        refine lv_ldc2 (v := 611783) hx hb hown (hts _ ckX6_263) dX6_holeItem_98 ?_
        refine lv_iload_n hx hb dX6_holeItem_101 rfl (lv_at hl 0 rfl) ?_
        refine lv_iconst (v := 5) hx hb dX6_holeItem_102 (by decide) ?_
        refine zcSwi (r := nI (19 + 6 * (zN S) + 5)) hx hb hml hown hts hl.1 hK hE hA lkX6_52 (c_X6_spotOf x (zMW x a (zTq (g 6) n z1 q0 v1 1) g nu (zflat T1)) (zN S) 5) ⟨Nat.le_of_ble_eq_true rfl, Nat.le_of_ble_eq_true rfl⟩ ⟨Nat.zero_le _, Nat.zero_le _⟩ hw rfl rfl (Nat.le_of_ble_eq_true rfl) dX6_holeItem_103 (fun H locs hw => ?_)
        have hw : zHw x A s.heap (zMW x a (zTq (g 6) n z1 q0 v1 1) g nu (zflat T1)) H locs := hw
        refine lv_iconst (v := 1) hx hb dX6_holeItem_106 (by decide) ?_
        refine zcVwv hx hb hml hown hts hl.1 hK hE hA lkX6_258 (c_X6_wordItem_w x a g nu T1 n z1 q0 v1 hn hqz1 10 (by decide) 611783 zwc10 (19 + 6 * (zN S) + 5) 1) ⟨Nat.le_of_ble_eq_true rfl, Nat.le_of_ble_eq_true rfl⟩ ⟨Nat.zero_le _, Nat.zero_le _⟩ hw 0 4 rfl rfl rfl rfl (Nat.le_of_ble_eq_true rfl) dX6_holeItem_107 (fun H locs hw => ?_)
        have hw : zHw x A s.heap (zMW x a (zTq (g 6) n z1 q0 v1 1) g nu (zflat T1)) H locs := hw
        exact zFG.vret hx hb hr hlocks hQ hw rfl dX6_holeItem_110 ⟨rfl, v1, T1, by rw [zHo_1 h8 hz1]⟩
    · have hy1 : y1 ≤ n := (zPa_o (zNx_le hy) hz1).1
      refine lv_iconst (v := 5) hx hb dX6_holeItem_44 (by decide) ?_
      refine zcVw hx hb hml hown hts hl.1 hK hE hA lkX6_250 (c_X6_partItem x a g nu (zAd S (nI k) 0) n (zNx (g 6) n y) q0 v hn (zNx_le hy) 6 (by decide) 302 zwc6 (19 + 6 * (zN S) + 1) (by omega) 4 (zN S) (fun z => zflat_uit _ z (by decide)) 5 (by decide)) ⟨Nat.le_of_ble_eq_true rfl, Nat.le_of_ble_eq_true rfl⟩ ⟨Nat.zero_le _, Nat.zero_le _⟩ hw 0 4 rfl rfl rfl rfl (Nat.le_of_ble_eq_true rfl) dX6_holeItem_45 (fun vv uu H locs hp hw => ?_)
      obtain ⟨rfl, v1, T1, hp2⟩ := hp
      rw [hz1] at hp2
      subst hp2
      refine W.eq (g2 := F0 m 48 ls []) rfl ?_
      have hw : zHw x A s.heap (zMW x a (zTq (g 6) n y1 q0 v1 0) g nu (zflat S1)) H locs := hw
      refine lv_aload_n hx hb dX6_holeItem_48 rfl (lv_at hl 1 rfl) ?_
      refine lv_ldc2 (v := 632645) hx hb hown (hts _ ckX6_254) dX6_holeItem_49 ?_
      refine lv_iload_n hx hb dX6_holeItem_52 rfl (lv_at hl 0 rfl) ?_
      refine lv_iconst (v := 2) hx hb dX6_holeItem_53 (by decide) ?_
      refine zcSwi (r := nI (19 + 6 * (zN S) + 2)) hx hb hml hown hts hl.1 hK hE hA lkX6_52 (c_X6_spotOf x (zMW x a (zTq (g 6) n y1 q0 v1 0) g nu (zflat S1)) (zN S) 2) ⟨Nat.le_of_ble_eq_true rfl, Nat.le_of_ble_eq_true rfl⟩ ⟨Nat.zero_le _, Nat.zero_le _⟩ hw rfl rfl (Nat.le_of_ble_eq_true rfl) dX6_holeItem_54 (fun H locs hw => ?_)
      have hw : zHw x A s.heap (zMW x a (zTq (g 6) n y1 q0 v1 0) g nu (zflat S1)) H locs := hw
      rcases hz2 : zPa (g 6) n y1 (zNm 7) 99 S1 5 (zN S) with z2 | ⟨y2, S2⟩
      · have hqz2 : z2 ≤ n := zPa_i hy1 hz2
        refine lv_bipush (v := 99) hx hb dX6_holeItem_57 (by decide) ?_
        refine zcVw hx hb hml hown hts hl.1 hK hE hA lkX6_250 (c_X6_partItem x a g nu S1 n y1 q0 v1 hn hy1 7 (by decide) 632645 zwc7 (19 + 6 * (zN S) + 2) (by omega) 5 (zN S) (fun z => zflat_uit _ z (by decide)) 99 (by decide)) ⟨Nat.le_of_ble_eq_true rfl, Nat.le_of_ble_eq_true rfl⟩ ⟨Nat.zero_le _, Nat.zero_le _⟩ hw 0 4 rfl rfl rfl rfl (Nat.le_of_ble_eq_true rfl) dX6_holeItem_59 (fun vv uu H locs hp hw => ?_)
        obtain ⟨rfl, w2, T2, hp2⟩ := hp
        rw [hz2] at hp2
        subst hp2
        refine W.eq (g2 := F0 m 62 ls []) rfl ?_
        have hw : zHw x A s.heap (zMW x a (zTq (g 6) n z2 q0 w2 1) g nu (zflat T2)) H locs := hw
        refine lv_aload_n hx hb dX6_holeItem_62 rfl (lv_at hl 1 rfl) ?_
        refine lv_ldc2 (v := 114052) hx hb hown (hts _ ckX6_256) dX6_holeItem_63 ?_
        refine lv_iload_n hx hb dX6_holeItem_66 rfl (lv_at hl 0 rfl) ?_
        refine lv_iconst (v := 3) hx hb dX6_holeItem_67 (by decide) ?_
        refine zcSwi (r := nI (19 + 6 * (zN S) + 3)) hx hb hml hown hts hl.1 hK hE hA lkX6_52 (c_X6_spotOf x (zMW x a (zTq (g 6) n z2 q0 w2 1) g nu (zflat T2)) (zN S) 3) ⟨Nat.le_of_ble_eq_true rfl, Nat.le_of_ble_eq_true rfl⟩ ⟨Nat.zero_le _, Nat.zero_le _⟩ hw rfl rfl (Nat.le_of_ble_eq_true rfl) dX6_holeItem_68 (fun H locs hw => ?_)
        have hw : zHw x A s.heap (zMW x a (zTq (g 6) n z2 q0 w2 1) g nu (zflat T2)) H locs := hw
        refine lv_iconst (v := 1) hx hb dX6_holeItem_71 (by decide) ?_
        refine zcVwv hx hb hml hown hts hl.1 hK hE hA lkX6_258 (c_X6_wordItem_w x a g nu T2 n z2 q0 w2 hn hqz2 8 (by decide) 114052 zwc8 (19 + 6 * (zN S) + 3) 1) ⟨Nat.le_of_ble_eq_true rfl, Nat.le_of_ble_eq_true rfl⟩ ⟨Nat.zero_le _, Nat.zero_le _⟩ hw 0 4 rfl rfl rfl rfl (Nat.le_of_ble_eq_true rfl) dX6_holeItem_72 (fun H locs hw => ?_)
        have hw : zHw x A s.heap (zMW x a (zTq (g 6) n z2 q0 w2 1) g nu (zflat T2)) H locs := hw
        refine lv_aload_n hx hb dX6_holeItem_75 rfl (lv_at hl 1 rfl) ?_
        refine lv_iload_n hx hb dX6_holeItem_76 rfl (lv_at hl 0 rfl) ?_
        refine lv_iconst (v := 3) hx hb dX6_holeItem_77 (by decide) ?_
        refine zcVwi (r := T2 6 (zN S)) hx hb hml hown hts hl.1 hK hE hA lkX6_74 (c_X6_its x a (zTq (g 6) n z2 q0 w2 1) g nu T2 (zN S) 3 (by omega) (by omega)) ⟨Nat.le_of_ble_eq_true rfl, Nat.le_of_ble_eq_true rfl⟩ ⟨Nat.zero_le _, Nat.zero_le _⟩ hw 0 4 rfl rfl rfl rfl (Nat.le_of_ble_eq_true rfl) dX6_holeItem_78 (fun H locs hw => ?_)
        have hw : zHw x A s.heap (zMW x a (zTq (g 6) n z2 q0 w2 1) g nu (zflat T2)) H locs := hw
        refine lv_if_ne (tgt := 97) hx hb dX6_holeItem_81 (by decide) (fun c81 => ?_) (fun c81 => ?_)
        · refine lv_aload_n hx hb dX6_holeItem_97 rfl (lv_at hl 1 rfl) ?_
          refine lv_ldc2 (v := 611783) hx hb hown (hts _ ckX6_263) dX6_holeItem_98 ?_
          refine lv_iload_n hx hb dX6_holeItem_101 rfl (lv_at hl 0 rfl) ?_
          refine lv_iconst (v := 5) hx hb dX6_holeItem_102 (by decide) ?_
          refine zcSwi (r := nI (19 + 6 * (zN S) + 5)) hx hb hml hown hts hl.1 hK hE hA lkX6_52 (c_X6_spotOf x (zMW x a (zTq (g 6) n z2 q0 w2 1) g nu (zflat T2)) (zN S) 5) ⟨Nat.le_of_ble_eq_true rfl, Nat.le_of_ble_eq_true rfl⟩ ⟨Nat.zero_le _, Nat.zero_le _⟩ hw rfl rfl (Nat.le_of_ble_eq_true rfl) dX6_holeItem_103 (fun H locs hw => ?_)
          have hw : zHw x A s.heap (zMW x a (zTq (g 6) n z2 q0 w2 1) g nu (zflat T2)) H locs := hw
          refine lv_iconst (v := 1) hx hb dX6_holeItem_106 (by decide) ?_
          refine zcVwv hx hb hml hown hts hl.1 hK hE hA lkX6_258 (c_X6_wordItem_w x a g nu T2 n z2 q0 w2 hn hqz2 10 (by decide) 611783 zwc10 (19 + 6 * (zN S) + 5) 1) ⟨Nat.le_of_ble_eq_true rfl, Nat.le_of_ble_eq_true rfl⟩ ⟨Nat.zero_le _, Nat.zero_le _⟩ hw 0 4 rfl rfl rfl rfl (Nat.le_of_ble_eq_true rfl) dX6_holeItem_107 (fun H locs hw => ?_)
          have hw : zHw x A s.heap (zMW x a (zTq (g 6) n z2 q0 w2 1) g nu (zflat T2)) H locs := hw
          exact zFG.vret hx hb hr hlocks hQ hw rfl dX6_holeItem_110 ⟨rfl, w2, T2, by rw [zHo_2 h8 hz1 hz2]⟩
        · refine lv_aload_n hx hb dX6_holeItem_84 rfl (lv_at hl 1 rfl) ?_
          refine lv_ldc2 (v := 8692) hx hb hown (hts _ ckX6_261) dX6_holeItem_85 ?_
          refine lv_iload_n hx hb dX6_holeItem_88 rfl (lv_at hl 0 rfl) ?_
          refine lv_iconst (v := 3) hx hb dX6_holeItem_89 (by decide) ?_
          refine zcSwi (r := nI (19 + 6 * (zN S) + 3)) hx hb hml hown hts hl.1 hK hE hA lkX6_52 (c_X6_spotOf x (zMW x a (zTq (g 6) n z2 q0 w2 1) g nu (zflat T2)) (zN S) 3) ⟨Nat.le_of_ble_eq_true rfl, Nat.le_of_ble_eq_true rfl⟩ ⟨Nat.zero_le _, Nat.zero_le _⟩ hw rfl rfl (Nat.le_of_ble_eq_true rfl) dX6_holeItem_90 (fun H locs hw => ?_)
          have hw : zHw x A s.heap (zMW x a (zTq (g 6) n z2 q0 w2 1) g nu (zflat T2)) H locs := hw
          refine lv_iconst (v := 2) hx hb dX6_holeItem_93 (by decide) ?_
          refine zcVwv hx hb hml hown hts hl.1 hK hE hA lkX6_258 (c_X6_wordItem_w x a g nu T2 n z2 q0 w2 hn hqz2 9 (by decide) 8692 zwc9 (19 + 6 * (zN S) + 3) 2) ⟨Nat.le_of_ble_eq_true rfl, Nat.le_of_ble_eq_true rfl⟩ ⟨Nat.zero_le _, Nat.zero_le _⟩ hw 0 4 rfl rfl rfl rfl (Nat.le_of_ble_eq_true rfl) dX6_holeItem_94 (fun H locs hw => ?_)
          have hw : zHw x A s.heap (zMW x a (zTq (g 6) n z2 q0 w2 1) g nu (zflat T2)) H locs := hw
          refine lv_aload_n hx hb dX6_holeItem_97 rfl (lv_at hl 1 rfl) ?_
          refine lv_ldc2 (v := 611783) hx hb hown (hts _ ckX6_263) dX6_holeItem_98 ?_
          refine lv_iload_n hx hb dX6_holeItem_101 rfl (lv_at hl 0 rfl) ?_
          refine lv_iconst (v := 5) hx hb dX6_holeItem_102 (by decide) ?_
          refine zcSwi (r := nI (19 + 6 * (zN S) + 5)) hx hb hml hown hts hl.1 hK hE hA lkX6_52 (c_X6_spotOf x (zMW x a (zTq (g 6) n z2 q0 w2 1) g nu (zflat T2)) (zN S) 5) ⟨Nat.le_of_ble_eq_true rfl, Nat.le_of_ble_eq_true rfl⟩ ⟨Nat.zero_le _, Nat.zero_le _⟩ hw rfl rfl (Nat.le_of_ble_eq_true rfl) dX6_holeItem_103 (fun H locs hw => ?_)
          have hw : zHw x A s.heap (zMW x a (zTq (g 6) n z2 q0 w2 1) g nu (zflat T2)) H locs := hw
          refine lv_iconst (v := 1) hx hb dX6_holeItem_106 (by decide) ?_
          refine zcVwv hx hb hml hown hts hl.1 hK hE hA lkX6_258 (c_X6_wordItem_w x a g nu T2 n z2 q0 w2 hn hqz2 10 (by decide) 611783 zwc10 (19 + 6 * (zN S) + 5) 1) ⟨Nat.le_of_ble_eq_true rfl, Nat.le_of_ble_eq_true rfl⟩ ⟨Nat.zero_le _, Nat.zero_le _⟩ hw 0 4 rfl rfl rfl rfl (Nat.le_of_ble_eq_true rfl) dX6_holeItem_107 (fun H locs hw => ?_)
          have hw : zHw x A s.heap (zMW x a (zTq (g 6) n z2 q0 w2 1) g nu (zflat T2)) H locs := hw
          exact zFG.vret hx hb hr hlocks hQ hw rfl dX6_holeItem_110 ⟨rfl, w2, T2, by rw [zHo_2 h8 hz1 hz2]⟩
      · have hy2 : y2 ≤ n := (zPa_o hy1 hz2).1
        refine lv_bipush (v := 99) hx hb dX6_holeItem_57 (by decide) ?_
        refine zcVw hx hb hml hown hts hl.1 hK hE hA lkX6_250 (c_X6_partItem x a g nu S1 n y1 q0 v1 hn hy1 7 (by decide) 632645 zwc7 (19 + 6 * (zN S) + 2) (by omega) 5 (zN S) (fun z => zflat_uit _ z (by decide)) 99 (by decide)) ⟨Nat.le_of_ble_eq_true rfl, Nat.le_of_ble_eq_true rfl⟩ ⟨Nat.zero_le _, Nat.zero_le _⟩ hw 0 4 rfl rfl rfl rfl (Nat.le_of_ble_eq_true rfl) dX6_holeItem_59 (fun vv uu H locs hp hw => ?_)
        obtain ⟨rfl, w2, T2, hp2⟩ := hp
        rw [hz2] at hp2
        subst hp2
        refine W.eq (g2 := F0 m 62 ls []) rfl ?_
        have hw : zHw x A s.heap (zMW x a (zTq (g 6) n y2 q0 w2 0) g nu (zflat S2)) H locs := hw
        refine lv_aload_n hx hb dX6_holeItem_62 rfl (lv_at hl 1 rfl) ?_
        refine lv_ldc2 (v := 114052) hx hb hown (hts _ ckX6_256) dX6_holeItem_63 ?_
        refine lv_iload_n hx hb dX6_holeItem_66 rfl (lv_at hl 0 rfl) ?_
        refine lv_iconst (v := 3) hx hb dX6_holeItem_67 (by decide) ?_
        refine zcSwi (r := nI (19 + 6 * (zN S) + 3)) hx hb hml hown hts hl.1 hK hE hA lkX6_52 (c_X6_spotOf x (zMW x a (zTq (g 6) n y2 q0 w2 0) g nu (zflat S2)) (zN S) 3) ⟨Nat.le_of_ble_eq_true rfl, Nat.le_of_ble_eq_true rfl⟩ ⟨Nat.zero_le _, Nat.zero_le _⟩ hw rfl rfl (Nat.le_of_ble_eq_true rfl) dX6_holeItem_68 (fun H locs hw => ?_)
        have hw : zHw x A s.heap (zMW x a (zTq (g 6) n y2 q0 w2 0) g nu (zflat S2)) H locs := hw
        rcases hz3 : zWi (g 6) n y2 (zNm 8) S2 6 (zN S) 1 with ⟨y3, S3⟩
        · have hy3 : y3 ≤ n := (zWi_o hy2 hz3).1
          refine lv_iconst (v := 1) hx hb dX6_holeItem_71 (by decide) ?_
          refine zcVwv hx hb hml hown hts hl.1 hK hE hA lkX6_258 (c_X6_wordItem x a g nu S2 n y2 q0 w2 hn hy2 8 (by decide) 114052 zwc8 (19 + 6 * (zN S) + 3) (by omega) 6 (zN S) (fun z => zflat_uit _ z (by decide)) 1) ⟨Nat.le_of_ble_eq_true rfl, Nat.le_of_ble_eq_true rfl⟩ ⟨Nat.zero_le _, Nat.zero_le _⟩ hw 0 4 rfl rfl rfl rfl (Nat.le_of_ble_eq_true rfl) dX6_holeItem_72 (fun H locs hw => ?_)
          have hw : zHw x A s.heap (zMW x a (zTq (g 6) n y3 q0 w2 0) g nu (zflat S3)) H locs := (by rw [hz3] at hw; exact hw)
          refine lv_aload_n hx hb dX6_holeItem_75 rfl (lv_at hl 1 rfl) ?_
          refine lv_iload_n hx hb dX6_holeItem_76 rfl (lv_at hl 0 rfl) ?_
          refine lv_iconst (v := 3) hx hb dX6_holeItem_77 (by decide) ?_
          refine zcVwi (r := S3 6 (zN S)) hx hb hml hown hts hl.1 hK hE hA lkX6_74 (c_X6_its x a (zTq (g 6) n y3 q0 w2 0) g nu S3 (zN S) 3 (by omega) (by omega)) ⟨Nat.le_of_ble_eq_true rfl, Nat.le_of_ble_eq_true rfl⟩ ⟨Nat.zero_le _, Nat.zero_le _⟩ hw 0 4 rfl rfl rfl rfl (Nat.le_of_ble_eq_true rfl) dX6_holeItem_78 (fun H locs hw => ?_)
          have hw : zHw x A s.heap (zMW x a (zTq (g 6) n y3 q0 w2 0) g nu (zflat S3)) H locs := hw
          refine lv_if_ne (tgt := 97) hx hb dX6_holeItem_81 (by decide) (fun c81 => ?_) (fun c81 => ?_)
          · refine lv_aload_n hx hb dX6_holeItem_97 rfl (lv_at hl 1 rfl) ?_
            refine lv_ldc2 (v := 611783) hx hb hown (hts _ ckX6_263) dX6_holeItem_98 ?_
            refine lv_iload_n hx hb dX6_holeItem_101 rfl (lv_at hl 0 rfl) ?_
            refine lv_iconst (v := 5) hx hb dX6_holeItem_102 (by decide) ?_
            refine zcSwi (r := nI (19 + 6 * (zN S) + 5)) hx hb hml hown hts hl.1 hK hE hA lkX6_52 (c_X6_spotOf x (zMW x a (zTq (g 6) n y3 q0 w2 0) g nu (zflat S3)) (zN S) 5) ⟨Nat.le_of_ble_eq_true rfl, Nat.le_of_ble_eq_true rfl⟩ ⟨Nat.zero_le _, Nat.zero_le _⟩ hw rfl rfl (Nat.le_of_ble_eq_true rfl) dX6_holeItem_103 (fun H locs hw => ?_)
            have hw : zHw x A s.heap (zMW x a (zTq (g 6) n y3 q0 w2 0) g nu (zflat S3)) H locs := hw
            rcases hz5 : zWi (g 6) n y3 (zNm 10) S3 8 (zN S) 1 with ⟨y5, S5⟩
            have hy5 : y5 ≤ n := (zWi_o hy3 hz5).1
            refine lv_iconst (v := 1) hx hb dX6_holeItem_106 (by decide) ?_
            refine zcVwv hx hb hml hown hts hl.1 hK hE hA lkX6_258 (c_X6_wordItem x a g nu S3 n y3 q0 w2 hn hy3 10 (by decide) 611783 zwc10 (19 + 6 * (zN S) + 5) (by omega) 8 (zN S) (fun z => zflat_uit _ z (by decide)) 1) ⟨Nat.le_of_ble_eq_true rfl, Nat.le_of_ble_eq_true rfl⟩ ⟨Nat.zero_le _, Nat.zero_le _⟩ hw 0 4 rfl rfl rfl rfl (Nat.le_of_ble_eq_true rfl) dX6_holeItem_107 (fun H locs hw => ?_)
            have hw : zHw x A s.heap (zMW x a (zTq (g 6) n y5 q0 w2 0) g nu (zflat S5)) H locs := (by rw [hz5] at hw; exact hw)
            exact zFG.vret hx hb hr hlocks hQ hw rfl dX6_holeItem_110 ⟨rfl, w2, S, by rw [zHo_3 h8 hz1 hz2 hz3 (if_neg c81) hz5]⟩
          · refine lv_aload_n hx hb dX6_holeItem_84 rfl (lv_at hl 1 rfl) ?_
            refine lv_ldc2 (v := 8692) hx hb hown (hts _ ckX6_261) dX6_holeItem_85 ?_
            refine lv_iload_n hx hb dX6_holeItem_88 rfl (lv_at hl 0 rfl) ?_
            refine lv_iconst (v := 3) hx hb dX6_holeItem_89 (by decide) ?_
            refine zcSwi (r := nI (19 + 6 * (zN S) + 3)) hx hb hml hown hts hl.1 hK hE hA lkX6_52 (c_X6_spotOf x (zMW x a (zTq (g 6) n y3 q0 w2 0) g nu (zflat S3)) (zN S) 3) ⟨Nat.le_of_ble_eq_true rfl, Nat.le_of_ble_eq_true rfl⟩ ⟨Nat.zero_le _, Nat.zero_le _⟩ hw rfl rfl (Nat.le_of_ble_eq_true rfl) dX6_holeItem_90 (fun H locs hw => ?_)
            have hw : zHw x A s.heap (zMW x a (zTq (g 6) n y3 q0 w2 0) g nu (zflat S3)) H locs := hw
            rcases hz4 : zWi (g 6) n y3 (zNm 9) S3 6 (zN S) 2 with ⟨y4, S4⟩
            · have hy4 : y4 ≤ n := (zWi_o hy3 hz4).1
              refine lv_iconst (v := 2) hx hb dX6_holeItem_93 (by decide) ?_
              refine zcVwv hx hb hml hown hts hl.1 hK hE hA lkX6_258 (c_X6_wordItem x a g nu S3 n y3 q0 w2 hn hy3 9 (by decide) 8692 zwc9 (19 + 6 * (zN S) + 3) (by omega) 6 (zN S) (fun z => zflat_uit _ z (by decide)) 2) ⟨Nat.le_of_ble_eq_true rfl, Nat.le_of_ble_eq_true rfl⟩ ⟨Nat.zero_le _, Nat.zero_le _⟩ hw 0 4 rfl rfl rfl rfl (Nat.le_of_ble_eq_true rfl) dX6_holeItem_94 (fun H locs hw => ?_)
              have hw : zHw x A s.heap (zMW x a (zTq (g 6) n y4 q0 w2 0) g nu (zflat S4)) H locs := (by rw [hz4] at hw; exact hw)
              refine lv_aload_n hx hb dX6_holeItem_97 rfl (lv_at hl 1 rfl) ?_
              refine lv_ldc2 (v := 611783) hx hb hown (hts _ ckX6_263) dX6_holeItem_98 ?_
              refine lv_iload_n hx hb dX6_holeItem_101 rfl (lv_at hl 0 rfl) ?_
              refine lv_iconst (v := 5) hx hb dX6_holeItem_102 (by decide) ?_
              refine zcSwi (r := nI (19 + 6 * (zN S) + 5)) hx hb hml hown hts hl.1 hK hE hA lkX6_52 (c_X6_spotOf x (zMW x a (zTq (g 6) n y4 q0 w2 0) g nu (zflat S4)) (zN S) 5) ⟨Nat.le_of_ble_eq_true rfl, Nat.le_of_ble_eq_true rfl⟩ ⟨Nat.zero_le _, Nat.zero_le _⟩ hw rfl rfl (Nat.le_of_ble_eq_true rfl) dX6_holeItem_103 (fun H locs hw => ?_)
              have hw : zHw x A s.heap (zMW x a (zTq (g 6) n y4 q0 w2 0) g nu (zflat S4)) H locs := hw
              rcases hz5 : zWi (g 6) n y4 (zNm 10) S4 8 (zN S) 1 with ⟨y5, S5⟩
              have hy5 : y5 ≤ n := (zWi_o hy4 hz5).1
              refine lv_iconst (v := 1) hx hb dX6_holeItem_106 (by decide) ?_
              refine zcVwv hx hb hml hown hts hl.1 hK hE hA lkX6_258 (c_X6_wordItem x a g nu S4 n y4 q0 w2 hn hy4 10 (by decide) 611783 zwc10 (19 + 6 * (zN S) + 5) (by omega) 8 (zN S) (fun z => zflat_uit _ z (by decide)) 1) ⟨Nat.le_of_ble_eq_true rfl, Nat.le_of_ble_eq_true rfl⟩ ⟨Nat.zero_le _, Nat.zero_le _⟩ hw 0 4 rfl rfl rfl rfl (Nat.le_of_ble_eq_true rfl) dX6_holeItem_107 (fun H locs hw => ?_)
              have hw : zHw x A s.heap (zMW x a (zTq (g 6) n y5 q0 w2 0) g nu (zflat S5)) H locs := (by rw [hz5] at hw; exact hw)
              exact zFG.vret hx hb hr hlocks hQ hw rfl dX6_holeItem_110 ⟨rfl, w2, S, by rw [zHo_3 h8 hz1 hz2 hz3 ((if_pos c81).trans hz4) hz5]⟩

set_option maxHeartbeats 4000000 in
set_option maxRecDepth 100000 in
theorem c_X6_streetItem (x : zX) (a : Nat → Nat) (g : zT) (nu : Nat → Nat → Int64) (S : zT) (n y : Nat) (q0 v : Int32) (hn : n ≤ 120) (hy : y ≤ n) : zFG x mX6_streetItem 6 [.ref (a 0)] (zMW x a (zTq (g 6) n y q0 v 0) g nu (zflat S)) (fun v' u' => v' = none ∧ zPR x a g nu n q0 (zSq (g 6) n y S) u') := by
  refine zFG.start RX6 cX6_streetItem 2 none rfl rfl (by decide +kernel) (Nat.le_of_ble_eq_true rfl) ?_
  intro p e s m ar below meth c ls A Q hx hb hr hml hown hts hlocks hK hE hA hQ hl hw
  have hl : lv_has ls 2 [(0, .ref (a 0))] := hl
  have hw : zHw x A s.heap (zMW x a (zTq (g 6) n y q0 v 0) g nu (zflat S)) s.heap [] := hw
  refine lv_aload_n hx hb dX6_streetItem_0 rfl (lv_at hl 0 rfl) ?_
  refine lv_iconst (v := 1) hx hb dX6_streetItem_1 (by decide) ?_
  refine zcVwv hx hb hml hown hts hl.1 hK hE hA lkX6_224 (c_X6_must_t x a g nu (zflat S) n y q0 v hn hy) ⟨Nat.le_of_ble_eq_true rfl, Nat.le_of_ble_eq_true rfl⟩ ⟨Nat.zero_le _, Nat.zero_le _⟩ hw 0 4 rfl rfl rfl rfl (Nat.le_of_ble_eq_true rfl) dX6_streetItem_2 (fun H locs hw => ?_)
  have hw : zHw x A s.heap (zMW x a (zTq (g 6) n (zNx (g 6) n y) q0 v 0) g nu (zflat S)) H locs := hw
  rcases hz : zNu (g 6) n (zNx (g 6) n y) 5 with _ | r
  · refine lv_aload_n hx hb dX6_streetItem_5 rfl (lv_at hl 0 rfl) ?_
    refine lv_iconst (v := 0) hx hb dX6_streetItem_6 (by decide) ?_
    refine lv_iconst (v := 5) hx hb dX6_streetItem_7 (by decide) ?_
    refine zcVw hx hb hml hown hts hl.1 hK hE hA lkX6_244 (c_X6_number x a g nu (zflat S) n (zNx (g 6) n y) q0 v hn (zNx_le hy) 5 (by first | decide | assumption)) ⟨Nat.le_of_ble_eq_true rfl, Nat.le_of_ble_eq_true rfl⟩ ⟨Nat.zero_le _, Nat.zero_le _⟩ hw 0 4 rfl rfl rfl rfl (Nat.le_of_ble_eq_true rfl) dX6_streetItem_8 (fun vv uu H locs hp hw => ?_)
    obtain ⟨rfl, v2, hp2⟩ := hp
    rw [hz] at hp2
    subst hp2
    refine W.eq (g2 := F0 m 11 ls []) rfl ?_
    have hw : zHw x A s.heap (zMW x a (zTq (g 6) n (zNx (g 6) n y) q0 v2 1) g nu (zflat S)) H locs := hw
    refine lv_aload_n hx hb dX6_streetItem_11 rfl (lv_at hl 0 rfl) ?_
    refine gfX6_210 hx hb hown hts hK hw 0 rfl rfl dX6_streetItem_12 ?_
    refine W.eq (g2 := F0 m 15 ls [.int 1]) (by rfl) ?_
    refine lv_if_eq (tgt := 19) hx hb dX6_streetItem_15 (by decide) (fun c15 => absurd c15 (by decide)) (fun c15 => ?_)
    exact zFG.vret hx hb hr hlocks hQ hw rfl dX6_streetItem_18 ⟨rfl, v2, S, by rw [zSq_0 hz]⟩
  · have hr6 : r < 6 := by
      have := zNu_le hz
      omega
    refine lv_aload_n hx hb dX6_streetItem_5 rfl (lv_at hl 0 rfl) ?_
    refine lv_iconst (v := 0) hx hb dX6_streetItem_6 (by decide) ?_
    refine lv_iconst (v := 5) hx hb dX6_streetItem_7 (by decide) ?_
    refine zcVw hx hb hml hown hts hl.1 hK hE hA lkX6_244 (c_X6_number x a g nu (zflat S) n (zNx (g 6) n y) q0 v hn (zNx_le hy) 5 (by first | decide | assumption)) ⟨Nat.le_of_ble_eq_true rfl, Nat.le_of_ble_eq_true rfl⟩ ⟨Nat.zero_le _, Nat.zero_le _⟩ hw 0 4 rfl rfl rfl rfl (Nat.le_of_ble_eq_true rfl) dX6_streetItem_8 (fun vv uu H locs hp hw => ?_)
    obtain ⟨rfl, v2, hp2⟩ := hp
    rw [hz] at hp2
    subst hp2
    refine W.eq (g2 := F0 m 11 ls []) rfl ?_
    have hw : zHw x A s.heap (zMW x a (zTq (g 6) n (zNx (g 6) n (zNx (g 6) n y)) q0 (nI r) 0) g nu (zflat S)) H locs := hw
    refine lv_aload_n hx hb dX6_streetItem_11 rfl (lv_at hl 0 rfl) ?_
    refine gfX6_210 hx hb hown hts hK hw 0 rfl rfl dX6_streetItem_12 ?_
    refine W.eq (g2 := F0 m 15 ls [.int 0]) (by rfl) ?_
    refine lv_if_eq (tgt := 19) hx hb dX6_streetItem_15 (by decide) (fun c15 => ?_) (fun c15 => absurd (by decide) c15)
    refine lv_aload_n hx hb dX6_streetItem_19 rfl (lv_at hl 0 rfl) ?_
    refine gfX6_221 hx hb hown hts hK hw 0 rfl rfl dX6_streetItem_20 ?_
    refine W.eq (g2 := F0 m 23 ls [.int (nI r)]) (by rfl) ?_
    refine lv_istore_n (lv' := [(1, .int (nI r)), (0, .ref (a 0))]) hx hb dX6_streetItem_23 rfl hl (by decide) rfl (fun ls hl => ?_)
    refine lv_aload_n hx hb dX6_streetItem_24 rfl (lv_at hl 1 rfl) ?_
    refine lv_ldc2 (v := 22080067875) hx hb hown (hts _ ckX6_265) dX6_streetItem_25 ?_
    refine lv_iload_n hx hb dX6_streetItem_28 rfl (lv_at hl 0 rfl) ?_
    refine lv_iconst (v := 0) hx hb dX6_streetItem_29 (by decide) ?_
    refine zcSwi (r := nI (7 + 2 * r + 0)) hx hb hml hown hts hl.1 hK hE hA lkX6_41 (c_X6_roadOf x (zMW x a (zTq (g 6) n (zNx (g 6) n (zNx (g 6) n y)) q0 (nI r) 0) g nu (zflat S)) r 0) ⟨Nat.le_of_ble_eq_true rfl, Nat.le_of_ble_eq_true rfl⟩ ⟨Nat.zero_le _, Nat.zero_le _⟩ hw rfl rfl (Nat.le_of_ble_eq_true rfl) dX6_streetItem_30 (fun H locs hw => ?_)
    have hw : zHw x A s.heap (zMW x a (zTq (g 6) n (zNx (g 6) n (zNx (g 6) n y)) q0 (nI r) 0) g nu (zflat S)) H locs := hw
    rcases hz2 : zPa (g 6) n (zNx (g 6) n (zNx (g 6) n y)) (zNm 12) 99 S 1 r with z2 | ⟨y1, S1⟩
    · have hqz2 : z2 ≤ n := zPa_i (zNx_le (zNx_le hy)) hz2
      refine lv_bipush (v := 99) hx hb dX6_streetItem_33 (by decide) ?_
      refine zcVw hx hb hml hown hts hl.1 hK hE hA lkX6_250 (c_X6_partItem x a g nu S n (zNx (g 6) n (zNx (g 6) n y)) q0 (nI r) hn (zNx_le (zNx_le hy)) 12 (by decide) 22080067875 zwc12 (7 + 2 * r + 0) (by omega) 1 r (fun z => zflat_uro _ z (by omega) (by decide)) 99 (by decide)) ⟨Nat.le_of_ble_eq_true rfl, Nat.le_of_ble_eq_true rfl⟩ ⟨Nat.zero_le _, Nat.zero_le _⟩ hw 0 4 rfl rfl rfl rfl (Nat.le_of_ble_eq_true rfl) dX6_streetItem_35 (fun vv uu H locs hp hw => ?_)
      obtain ⟨rfl, v3, T3, hp2⟩ := hp
      rw [hz2] at hp2
      subst hp2
      refine W.eq (g2 := F0 m 38 ls []) rfl ?_
      have hw : zHw x A s.heap (zMW x a (zTq (g 6) n z2 q0 v3 1) g nu (zflat T3)) H locs := hw
      refine lv_aload_n hx hb dX6_streetItem_38 rfl (lv_at hl 1 rfl) ?_
      refine gfX6_7 hx hb hown hts hK hw 0 rfl rfl dX6_streetItem_39 ?_
      refine lv_iload_n hx hb dX6_streetItem_42 rfl (lv_at hl 0 rfl) ?_
      refine lv_iconst (v := 1) hx hb dX6_streetItem_43 (by decide) ?_
      refine zcSwi (r := nI (7 + 2 * r + 1)) hx hb hml hown hts hl.1 hK hE hA lkX6_41 (c_X6_roadOf x (zMW x a (zTq (g 6) n z2 q0 v3 1) g nu (zflat T3)) r 1) ⟨Nat.le_of_ble_eq_true rfl, Nat.le_of_ble_eq_true rfl⟩ ⟨Nat.zero_le _, Nat.zero_le _⟩ hw rfl rfl (Nat.le_of_ble_eq_true rfl) dX6_streetItem_44 (fun H locs hw => ?_)
      have hw : zHw x A s.heap (zMW x a (zTq (g 6) n z2 q0 v3 1) g nu (zflat T3)) H locs := hw
      refine lv_iconst (v := 0) hx hb dX6_streetItem_47 (by decide) ?_
      refine zias2 (f' := zflat (zU T3 2 r 0)) hx hb hK hw 1 0 (7 + 2 * r + 1) rfl rfl rfl (by omega) (by decide) dX6_streetItem_48 (zflat_uro T3 _ (by omega) (by omega)) (fun H locs hw => ?_)
      have hw : zHw x A s.heap (zMW x a (zTq (g 6) n z2 q0 v3 1) g nu (zflat (zU T3 2 r 0))) H locs := hw
      refine lv_aload_n hx hb dX6_streetItem_49 rfl (lv_at hl 1 rfl) ?_
      refine lv_ldc2 (v := 12468) hx hb hown (hts _ ckX6_267) dX6_streetItem_50 ?_
      refine lv_iload_n hx hb dX6_streetItem_53 rfl (lv_at hl 0 rfl) ?_
      refine lv_iconst (v := 1) hx hb dX6_streetItem_54 (by decide) ?_
      refine zcSwi (r := nI (7 + 2 * r + 1)) hx hb hml hown hts hl.1 hK hE hA lkX6_41 (c_X6_roadOf x (zMW x a (zTq (g 6) n z2 q0 v3 1) g nu (zflat (zU T3 2 r 0))) r 1) ⟨Nat.le_of_ble_eq_true rfl, Nat.le_of_ble_eq_true rfl⟩ ⟨Nat.zero_le _, Nat.zero_le _⟩ hw rfl rfl (Nat.le_of_ble_eq_true rfl) dX6_streetItem_55 (fun H locs hw => ?_)
      have hw : zHw x A s.heap (zMW x a (zTq (g 6) n z2 q0 v3 1) g nu (zflat (zU T3 2 r 0))) H locs := hw
      refine lv_iconst (v := 1) hx hb dX6_streetItem_58 (by decide) ?_
      refine zcVwv hx hb hml hown hts hl.1 hK hE hA lkX6_258 (c_X6_wordItem_w x a g nu (zU T3 2 r 0) n z2 q0 v3 hn hqz2 13 (by decide) 12468 zwc13 (7 + 2 * r + 1) 1) ⟨Nat.le_of_ble_eq_true rfl, Nat.le_of_ble_eq_true rfl⟩ ⟨Nat.zero_le _, Nat.zero_le _⟩ hw 0 4 rfl rfl rfl rfl (Nat.le_of_ble_eq_true rfl) dX6_streetItem_59 (fun H locs hw => ?_)
      have hw : zHw x A s.heap (zMW x a (zTq (g 6) n z2 q0 v3 1) g nu (zflat (zU T3 2 r 0))) H locs := hw
      exact zFG.vret hx hb hr hlocks hQ hw rfl dX6_streetItem_62 ⟨rfl, v3, zU T3 2 r 0, by rw [zSq_1 hz hz2]⟩
    · have hy1 : y1 ≤ n := (zPa_o (zNx_le (zNx_le hy)) hz2).1
      refine lv_bipush (v := 99) hx hb dX6_streetItem_33 (by decide) ?_
      refine zcVw hx hb hml hown hts hl.1 hK hE hA lkX6_250 (c_X6_partItem x a g nu S n (zNx (g 6) n (zNx (g 6) n y)) q0 (nI r) hn (zNx_le (zNx_le hy)) 12 (by decide) 22080067875 zwc12 (7 + 2 * r + 0) (by omega) 1 r (fun z => zflat_uro _ z (by omega) (by decide)) 99 (by decide)) ⟨Nat.le_of_ble_eq_true rfl, Nat.le_of_ble_eq_true rfl⟩ ⟨Nat.zero_le _, Nat.zero_le _⟩ hw 0 4 rfl rfl rfl rfl (Nat.le_of_ble_eq_true rfl) dX6_streetItem_35 (fun vv uu H locs hp hw => ?_)
      obtain ⟨rfl, v3, T3, hp2⟩ := hp
      rw [hz2] at hp2
      subst hp2
      refine W.eq (g2 := F0 m 38 ls []) rfl ?_
      have hw : zHw x A s.heap (zMW x a (zTq (g 6) n y1 q0 v3 0) g nu (zflat S1)) H locs := hw
      refine lv_aload_n hx hb dX6_streetItem_38 rfl (lv_at hl 1 rfl) ?_
      refine gfX6_7 hx hb hown hts hK hw 0 rfl rfl dX6_streetItem_39 ?_
      refine lv_iload_n hx hb dX6_streetItem_42 rfl (lv_at hl 0 rfl) ?_
      refine lv_iconst (v := 1) hx hb dX6_streetItem_43 (by decide) ?_
      refine zcSwi (r := nI (7 + 2 * r + 1)) hx hb hml hown hts hl.1 hK hE hA lkX6_41 (c_X6_roadOf x (zMW x a (zTq (g 6) n y1 q0 v3 0) g nu (zflat S1)) r 1) ⟨Nat.le_of_ble_eq_true rfl, Nat.le_of_ble_eq_true rfl⟩ ⟨Nat.zero_le _, Nat.zero_le _⟩ hw rfl rfl (Nat.le_of_ble_eq_true rfl) dX6_streetItem_44 (fun H locs hw => ?_)
      have hw : zHw x A s.heap (zMW x a (zTq (g 6) n y1 q0 v3 0) g nu (zflat S1)) H locs := hw
      refine lv_iconst (v := 0) hx hb dX6_streetItem_47 (by decide) ?_
      refine zias2 (f' := zflat (zU S1 2 r 0)) hx hb hK hw 1 0 (7 + 2 * r + 1) rfl rfl rfl (by omega) (by decide) dX6_streetItem_48 (zflat_uro S1 _ (by omega) (by omega)) (fun H locs hw => ?_)
      have hw : zHw x A s.heap (zMW x a (zTq (g 6) n y1 q0 v3 0) g nu (zflat (zU S1 2 r 0))) H locs := hw
      refine lv_aload_n hx hb dX6_streetItem_49 rfl (lv_at hl 1 rfl) ?_
      refine lv_ldc2 (v := 12468) hx hb hown (hts _ ckX6_267) dX6_streetItem_50 ?_
      refine lv_iload_n hx hb dX6_streetItem_53 rfl (lv_at hl 0 rfl) ?_
      refine lv_iconst (v := 1) hx hb dX6_streetItem_54 (by decide) ?_
      refine zcSwi (r := nI (7 + 2 * r + 1)) hx hb hml hown hts hl.1 hK hE hA lkX6_41 (c_X6_roadOf x (zMW x a (zTq (g 6) n y1 q0 v3 0) g nu (zflat (zU S1 2 r 0))) r 1) ⟨Nat.le_of_ble_eq_true rfl, Nat.le_of_ble_eq_true rfl⟩ ⟨Nat.zero_le _, Nat.zero_le _⟩ hw rfl rfl (Nat.le_of_ble_eq_true rfl) dX6_streetItem_55 (fun H locs hw => ?_)
      have hw : zHw x A s.heap (zMW x a (zTq (g 6) n y1 q0 v3 0) g nu (zflat (zU S1 2 r 0))) H locs := hw
      rcases hz3 : zWi (g 6) n y1 (zNm 13) (zU S1 2 r 0) 2 r 1 with ⟨y2, S2⟩
      · have hy2 : y2 ≤ n := (zWi_o hy1 hz3).1
        refine lv_iconst (v := 1) hx hb dX6_streetItem_58 (by decide) ?_
        refine zcVwv hx hb hml hown hts hl.1 hK hE hA lkX6_258 (c_X6_wordItem x a g nu (zU S1 2 r 0) n y1 q0 v3 hn hy1 13 (by decide) 12468 zwc13 (7 + 2 * r + 1) (by omega) 2 r (fun z => zflat_uro _ z (by omega) (by decide)) 1) ⟨Nat.le_of_ble_eq_true rfl, Nat.le_of_ble_eq_true rfl⟩ ⟨Nat.zero_le _, Nat.zero_le _⟩ hw 0 4 rfl rfl rfl rfl (Nat.le_of_ble_eq_true rfl) dX6_streetItem_59 (fun H locs hw => ?_)
        have hw : zHw x A s.heap (zMW x a (zTq (g 6) n y2 q0 v3 0) g nu (zflat S2)) H locs := (by rw [hz3] at hw; exact hw)
        exact zFG.vret hx hb hr hlocks hQ hw rfl dX6_streetItem_62 ⟨rfl, v3, S, by rw [zSq_2 hz hz2 hz3]⟩

set_option maxHeartbeats 4000000 in
set_option maxRecDepth 100000 in
theorem c_X6_item (x : zX) (a : Nat → Nat) (g : zT) (nu : Nat → Nat → Int64) (S : zT) (n y : Nat) (q0 v : Int32) (hn : n ≤ 120) (hy : y ≤ n) (hI : zInv S) : zFG x mX6_item 7 [.ref (a 0)] (zMW x a (zTq (g 6) n y q0 v 0) g nu (zflat S)) (fun v' u' => v' = none ∧ zPR x a g nu n q0 (zIt (g 6) n y S) u') := by
  refine zFG.start RX6 cX6_item 6 none rfl rfl (by decide +kernel) (Nat.le_of_ble_eq_true rfl) ?_
  intro p e s m ar below meth c ls A Q hx hb hr hml hown hts hlocks hK hE hA hQ hl hw
  have hl : lv_has ls 6 [(0, .ref (a 0))] := hl
  have hw : zHw x A s.heap (zMW x a (zTq (g 6) n y q0 v 0) g nu (zflat S)) s.heap [] := hw
  refine lv_aload_n hx hb dX6_item_0 rfl (lv_at hl 0 rfl) ?_
  rcases zItc (g 6) n y with hk | ⟨hk, hs⟩ | ⟨hk, hs, hb1⟩ | ⟨hk, hs, hb1, hm1⟩ | ⟨hk, hs, hb1, hm1⟩
  · refine zcVwi (r := zKn (g 6) n y) hx hb hml hown hts hl.1 hK hE hA lkX6_269 (c_X6_kindHere x a g nu S n y q0 v hn hy) ⟨Nat.le_of_ble_eq_true rfl, Nat.le_of_ble_eq_true rfl⟩ ⟨Nat.zero_le _, Nat.zero_le _⟩ hw 0 4 rfl rfl rfl rfl (Nat.le_of_ble_eq_true rfl) dX6_item_1 (fun H locs hw => ?_)
    have hw : zHw x A s.heap (zMW x a (zTq (g 6) n y q0 v 0) g nu (zflat S)) H locs := hw
    refine W.eq (g2 := F0 m 4 ls [.int (nI (zKi (g 6) n y 6 0))]) (by rw [show zKn (g 6) n y = _ from if_pos hk]) ?_
    refine lv_istore_n (lv' := [(1, .int (nI (zKi (g 6) n y 6 0))), (0, .ref (a 0))]) hx hb dX6_item_4 rfl hl (by decide) rfl (fun ls hl => ?_)
    refine lv_aload_n hx hb dX6_item_5 rfl (lv_at hl 1 rfl) ?_
    refine zcVwl (r := lN (zWv (g 6) n y)) hx hb hml hown hts hl.1 hK hE hA lkX6_228 (c_X6_word_0 x a g nu (zflat S) n y q0 v hn hy) ⟨Nat.le_of_ble_eq_true rfl, Nat.le_of_ble_eq_true rfl⟩ ⟨Nat.zero_le _, Nat.zero_le _⟩ hw 0 4 rfl rfl rfl rfl (Nat.le_of_ble_eq_true rfl) dX6_item_6 (fun H locs hw => ?_)
    have hw : zHw x A s.heap (zMW x a (zTq (g 6) n y q0 v 0) g nu (zflat S)) H locs := hw
    refine lv_lstore_n (lv' := [(2, .long (lN (zWv (g 6) n y))), (1, .int (nI (zKi (g 6) n y 6 0))), (0, .ref (a 0))]) hx hb dX6_item_9 rfl hl (by decide) rfl (fun ls hl => ?_)
    refine lv_lload_n hx hb dX6_item_10 rfl (lv_at hl 0 rfl) ?_
    refine lv_ldc2 (v := 89267380) hx hb hown (hts _ ckX6_272) dX6_item_11 ?_
    refine W.lcmp hx hb dX6_item_14 ?_
    refine lv_if_ne (tgt := 22) hx hb dX6_item_15 (by decide) (fun c15 => ?_) (fun c15 => ?_)
    · have c15 := fun h => c15 ((lg_cmp_eq _ _).mpr h)
      refine lv_iconst (v := 0) hx hb dX6_item_22 (by decide) ?_
      refine lv_istore (lv' := [(4, .int 0), (2, .long (lN (zWv (g 6) n y))), (1, .int (nI (zKi (g 6) n y 6 0))), (0, .ref (a 0))]) hx hb dX6_item_23 hl (by decide) rfl (fun ls hl => ?_)
      refine lv_iload_n hx hb dX6_item_25 rfl (lv_at hl 2 rfl) ?_
      refine lv_if_lt (tgt := 37) hx hb dX6_item_26 (by decide) (fun c26 => absurd c26 (nI_pos (by omega))) (fun c26 => ?_)
      rcases hzz : zHo (g 6) n y S (zKi (g 6) n y 6 0) with z1 | ⟨y1, S1⟩
      · refine lv_aload_n hx hb dX6_item_29 rfl (lv_at hl 3 rfl) ?_
        refine lv_iload_n hx hb dX6_item_30 rfl (lv_at hl 2 rfl) ?_
        refine zcVw hx hb hml hown hts hl.1 hK hE hA lkX6_274 (c_X6_holeItem x a g nu S n y q0 v hn hy (zKi (g 6) n y 6 0) hI) ⟨Nat.le_of_ble_eq_true rfl, Nat.le_of_ble_eq_true rfl⟩ ⟨Nat.zero_le _, Nat.zero_le _⟩ hw 0 4 rfl rfl rfl rfl (Nat.le_of_ble_eq_true rfl) dX6_item_31 (fun vv uu H locs hp hw => ?_)
        obtain ⟨rfl, v3, T3, hp2⟩ := hp
        rw [hzz] at hp2
        subst hp2
        refine W.eq (g2 := F0 m 34 ls []) rfl ?_
        have hw : zHw x A s.heap (zMW x a (zTq (g 6) n z1 q0 v3 1) g nu (zflat T3)) H locs := hw
        refine lv_goto (tgt := 132) hx hb dX6_item_34 (by decide) ?_
        exact zFG.vret hx hb hr hlocks hQ hw rfl dX6_item_132 ⟨rfl, v3, T3, by rw [show zIt (g 6) n y S = zHo (g 6) n y S (zKi (g 6) n y 6 0) from if_pos hk, hzz]⟩
      · refine lv_aload_n hx hb dX6_item_29 rfl (lv_at hl 3 rfl) ?_
        refine lv_iload_n hx hb dX6_item_30 rfl (lv_at hl 2 rfl) ?_
        refine zcVw hx hb hml hown hts hl.1 hK hE hA lkX6_274 (c_X6_holeItem x a g nu S n y q0 v hn hy (zKi (g 6) n y 6 0) hI) ⟨Nat.le_of_ble_eq_true rfl, Nat.le_of_ble_eq_true rfl⟩ ⟨Nat.zero_le _, Nat.zero_le _⟩ hw 0 4 rfl rfl rfl rfl (Nat.le_of_ble_eq_true rfl) dX6_item_31 (fun vv uu H locs hp hw => ?_)
        obtain ⟨rfl, v3, T3, hp2⟩ := hp
        rw [hzz] at hp2
        subst hp2
        refine W.eq (g2 := F0 m 34 ls []) rfl ?_
        have hw : zHw x A s.heap (zMW x a (zTq (g 6) n y1 q0 v3 0) g nu (zflat S1)) H locs := hw
        refine lv_goto (tgt := 132) hx hb dX6_item_34 (by decide) ?_
        exact zFG.vret hx hb hr hlocks hQ hw rfl dX6_item_132 ⟨rfl, v3, S, by rw [show zIt (g 6) n y S = zHo (g 6) n y S (zKi (g 6) n y 6 0) from if_pos hk, hzz]⟩
    · have c15 := (lg_cmp_eq _ _).mp c15
      refine lv_iconst (v := 1) hx hb dX6_item_18 (by decide) ?_
      refine lv_goto (tgt := 23) hx hb dX6_item_19 (by decide) ?_
      refine lv_istore (lv' := [(4, .int 1), (2, .long (lN (zWv (g 6) n y))), (1, .int (nI (zKi (g 6) n y 6 0))), (0, .ref (a 0))]) hx hb dX6_item_23 hl (by decide) rfl (fun ls hl => ?_)
      refine lv_iload_n hx hb dX6_item_25 rfl (lv_at hl 2 rfl) ?_
      refine lv_if_lt (tgt := 37) hx hb dX6_item_26 (by decide) (fun c26 => absurd c26 (nI_pos (by omega))) (fun c26 => ?_)
      rcases hzz : zHo (g 6) n y S (zKi (g 6) n y 6 0) with z1 | ⟨y1, S1⟩
      · refine lv_aload_n hx hb dX6_item_29 rfl (lv_at hl 3 rfl) ?_
        refine lv_iload_n hx hb dX6_item_30 rfl (lv_at hl 2 rfl) ?_
        refine zcVw hx hb hml hown hts hl.1 hK hE hA lkX6_274 (c_X6_holeItem x a g nu S n y q0 v hn hy (zKi (g 6) n y 6 0) hI) ⟨Nat.le_of_ble_eq_true rfl, Nat.le_of_ble_eq_true rfl⟩ ⟨Nat.zero_le _, Nat.zero_le _⟩ hw 0 4 rfl rfl rfl rfl (Nat.le_of_ble_eq_true rfl) dX6_item_31 (fun vv uu H locs hp hw => ?_)
        obtain ⟨rfl, v3, T3, hp2⟩ := hp
        rw [hzz] at hp2
        subst hp2
        refine W.eq (g2 := F0 m 34 ls []) rfl ?_
        have hw : zHw x A s.heap (zMW x a (zTq (g 6) n z1 q0 v3 1) g nu (zflat T3)) H locs := hw
        refine lv_goto (tgt := 132) hx hb dX6_item_34 (by decide) ?_
        exact zFG.vret hx hb hr hlocks hQ hw rfl dX6_item_132 ⟨rfl, v3, T3, by rw [show zIt (g 6) n y S = zHo (g 6) n y S (zKi (g 6) n y 6 0) from if_pos hk, hzz]⟩
      · refine lv_aload_n hx hb dX6_item_29 rfl (lv_at hl 3 rfl) ?_
        refine lv_iload_n hx hb dX6_item_30 rfl (lv_at hl 2 rfl) ?_
        refine zcVw hx hb hml hown hts hl.1 hK hE hA lkX6_274 (c_X6_holeItem x a g nu S n y q0 v hn hy (zKi (g 6) n y 6 0) hI) ⟨Nat.le_of_ble_eq_true rfl, Nat.le_of_ble_eq_true rfl⟩ ⟨Nat.zero_le _, Nat.zero_le _⟩ hw 0 4 rfl rfl rfl rfl (Nat.le_of_ble_eq_true rfl) dX6_item_31 (fun vv uu H locs hp hw => ?_)
        obtain ⟨rfl, v3, T3, hp2⟩ := hp
        rw [hzz] at hp2
        subst hp2
        refine W.eq (g2 := F0 m 34 ls []) rfl ?_
        have hw : zHw x A s.heap (zMW x a (zTq (g 6) n y1 q0 v3 0) g nu (zflat S1)) H locs := hw
        refine lv_goto (tgt := 132) hx hb dX6_item_34 (by decide) ?_
        exact zFG.vret hx hb hr hlocks hQ hw rfl dX6_item_132 ⟨rfl, v3, S, by rw [show zIt (g 6) n y S = zHo (g 6) n y S (zKi (g 6) n y 6 0) from if_pos hk, hzz]⟩
  · refine zcVwi (r := zKn (g 6) n y) hx hb hml hown hts hl.1 hK hE hA lkX6_269 (c_X6_kindHere x a g nu S n y q0 v hn hy) ⟨Nat.le_of_ble_eq_true rfl, Nat.le_of_ble_eq_true rfl⟩ ⟨Nat.zero_le _, Nat.zero_le _⟩ hw 0 4 rfl rfl rfl rfl (Nat.le_of_ble_eq_true rfl) dX6_item_1 (fun H locs hw => ?_)
    have hw : zHw x A s.heap (zMW x a (zTq (g 6) n y q0 v 0) g nu (zflat S)) H locs := hw
    refine W.eq (g2 := F0 m 4 ls [.int (-1)]) (by rw [show zKn (g 6) n y = _ from if_neg hk]) ?_
    refine lv_istore_n (lv' := [(1, .int (-1)), (0, .ref (a 0))]) hx hb dX6_item_4 rfl hl (by decide) rfl (fun ls hl => ?_)
    refine lv_aload_n hx hb dX6_item_5 rfl (lv_at hl 1 rfl) ?_
    refine zcVwl (r := lN (zWv (g 6) n y)) hx hb hml hown hts hl.1 hK hE hA lkX6_228 (c_X6_word_0 x a g nu (zflat S) n y q0 v hn hy) ⟨Nat.le_of_ble_eq_true rfl, Nat.le_of_ble_eq_true rfl⟩ ⟨Nat.zero_le _, Nat.zero_le _⟩ hw 0 4 rfl rfl rfl rfl (Nat.le_of_ble_eq_true rfl) dX6_item_6 (fun H locs hw => ?_)
    have hw : zHw x A s.heap (zMW x a (zTq (g 6) n y q0 v 0) g nu (zflat S)) H locs := hw
    refine lv_lstore_n (lv' := [(2, .long (lN (zWv (g 6) n y))), (1, .int (-1)), (0, .ref (a 0))]) hx hb dX6_item_9 rfl hl (by decide) rfl (fun ls hl => ?_)
    refine lv_lload_n hx hb dX6_item_10 rfl (lv_at hl 0 rfl) ?_
    refine lv_ldc2 (v := 89267380) hx hb hown (hts _ ckX6_272) dX6_item_11 ?_
    refine W.lcmp hx hb dX6_item_14 ?_
    refine lv_if_ne (tgt := 22) hx hb dX6_item_15 (by decide) (fun c15 => ?_) (fun c15 => ?_)
    · have c15 := fun h => c15 ((lg_cmp_eq _ _).mpr h)
      refine lv_iconst (v := 0) hx hb dX6_item_22 (by decide) ?_
      refine lv_istore (lv' := [(4, .int 0), (2, .long (lN (zWv (g 6) n y))), (1, .int (-1)), (0, .ref (a 0))]) hx hb dX6_item_23 hl (by decide) rfl (fun ls hl => ?_)
      refine lv_iload_n hx hb dX6_item_25 rfl (lv_at hl 2 rfl) ?_
      refine lv_if_lt (tgt := 37) hx hb dX6_item_26 (by decide) (fun c26 => ?_) (fun c26 => absurd (by decide) c26)
      refine lv_lload_n hx hb dX6_item_37 rfl (lv_at hl 1 rfl) ?_
      refine lv_ldc2 (v := 659100852) hx hb hown (hts _ ckX6_277) dX6_item_38 ?_
      refine W.lcmp hx hb dX6_item_41 ?_
      refine lv_if_ne (tgt := 52) hx hb dX6_item_42 (by decide) (fun c42 => absurd c42 (fun h => h ((lg_cmp_eq _ _).mpr ((zWc (i := 11) (by decide) zwc11).mpr hs)))) (fun c42 => ?_)
      rcases hzz : zSq (g 6) n y S with z1 | ⟨y1, S1⟩
      · refine lv_aload_n hx hb dX6_item_45 rfl (lv_at hl 3 rfl) ?_
        refine zcVw hx hb hml hown hts hl.1 hK hE hA lkX6_279 (c_X6_streetItem x a g nu S n y q0 v hn hy ) ⟨Nat.le_of_ble_eq_true rfl, Nat.le_of_ble_eq_true rfl⟩ ⟨Nat.zero_le _, Nat.zero_le _⟩ hw 0 4 rfl rfl rfl rfl (Nat.le_of_ble_eq_true rfl) dX6_item_46 (fun vv uu H locs hp hw => ?_)
        obtain ⟨rfl, v3, T3, hp2⟩ := hp
        rw [hzz] at hp2
        subst hp2
        refine W.eq (g2 := F0 m 49 ls []) rfl ?_
        have hw : zHw x A s.heap (zMW x a (zTq (g 6) n z1 q0 v3 1) g nu (zflat T3)) H locs := hw
        refine lv_goto (tgt := 132) hx hb dX6_item_49 (by decide) ?_
        exact zFG.vret hx hb hr hlocks hQ hw rfl dX6_item_132 ⟨rfl, v3, T3, by rw [show zIt (g 6) n y S = zSq (g 6) n y S from (if_neg hk).trans (if_pos hs), hzz]⟩
      · refine lv_aload_n hx hb dX6_item_45 rfl (lv_at hl 3 rfl) ?_
        refine zcVw hx hb hml hown hts hl.1 hK hE hA lkX6_279 (c_X6_streetItem x a g nu S n y q0 v hn hy ) ⟨Nat.le_of_ble_eq_true rfl, Nat.le_of_ble_eq_true rfl⟩ ⟨Nat.zero_le _, Nat.zero_le _⟩ hw 0 4 rfl rfl rfl rfl (Nat.le_of_ble_eq_true rfl) dX6_item_46 (fun vv uu H locs hp hw => ?_)
        obtain ⟨rfl, v3, T3, hp2⟩ := hp
        rw [hzz] at hp2
        subst hp2
        refine W.eq (g2 := F0 m 49 ls []) rfl ?_
        have hw : zHw x A s.heap (zMW x a (zTq (g 6) n y1 q0 v3 0) g nu (zflat S1)) H locs := hw
        refine lv_goto (tgt := 132) hx hb dX6_item_49 (by decide) ?_
        exact zFG.vret hx hb hr hlocks hQ hw rfl dX6_item_132 ⟨rfl, v3, S, by rw [show zIt (g 6) n y S = zSq (g 6) n y S from (if_neg hk).trans (if_pos hs), hzz]⟩
    · have c15 := (lg_cmp_eq _ _).mp c15
      refine lv_iconst (v := 1) hx hb dX6_item_18 (by decide) ?_
      refine lv_goto (tgt := 23) hx hb dX6_item_19 (by decide) ?_
      refine lv_istore (lv' := [(4, .int 1), (2, .long (lN (zWv (g 6) n y))), (1, .int (-1)), (0, .ref (a 0))]) hx hb dX6_item_23 hl (by decide) rfl (fun ls hl => ?_)
      refine lv_iload_n hx hb dX6_item_25 rfl (lv_at hl 2 rfl) ?_
      refine lv_if_lt (tgt := 37) hx hb dX6_item_26 (by decide) (fun c26 => ?_) (fun c26 => absurd (by decide) c26)
      refine lv_lload_n hx hb dX6_item_37 rfl (lv_at hl 1 rfl) ?_
      refine lv_ldc2 (v := 659100852) hx hb hown (hts _ ckX6_277) dX6_item_38 ?_
      refine W.lcmp hx hb dX6_item_41 ?_
      refine lv_if_ne (tgt := 52) hx hb dX6_item_42 (by decide) (fun c42 => absurd c42 (fun h => h ((lg_cmp_eq _ _).mpr ((zWc (i := 11) (by decide) zwc11).mpr hs)))) (fun c42 => ?_)
      rcases hzz : zSq (g 6) n y S with z1 | ⟨y1, S1⟩
      · refine lv_aload_n hx hb dX6_item_45 rfl (lv_at hl 3 rfl) ?_
        refine zcVw hx hb hml hown hts hl.1 hK hE hA lkX6_279 (c_X6_streetItem x a g nu S n y q0 v hn hy ) ⟨Nat.le_of_ble_eq_true rfl, Nat.le_of_ble_eq_true rfl⟩ ⟨Nat.zero_le _, Nat.zero_le _⟩ hw 0 4 rfl rfl rfl rfl (Nat.le_of_ble_eq_true rfl) dX6_item_46 (fun vv uu H locs hp hw => ?_)
        obtain ⟨rfl, v3, T3, hp2⟩ := hp
        rw [hzz] at hp2
        subst hp2
        refine W.eq (g2 := F0 m 49 ls []) rfl ?_
        have hw : zHw x A s.heap (zMW x a (zTq (g 6) n z1 q0 v3 1) g nu (zflat T3)) H locs := hw
        refine lv_goto (tgt := 132) hx hb dX6_item_49 (by decide) ?_
        exact zFG.vret hx hb hr hlocks hQ hw rfl dX6_item_132 ⟨rfl, v3, T3, by rw [show zIt (g 6) n y S = zSq (g 6) n y S from (if_neg hk).trans (if_pos hs), hzz]⟩
      · refine lv_aload_n hx hb dX6_item_45 rfl (lv_at hl 3 rfl) ?_
        refine zcVw hx hb hml hown hts hl.1 hK hE hA lkX6_279 (c_X6_streetItem x a g nu S n y q0 v hn hy ) ⟨Nat.le_of_ble_eq_true rfl, Nat.le_of_ble_eq_true rfl⟩ ⟨Nat.zero_le _, Nat.zero_le _⟩ hw 0 4 rfl rfl rfl rfl (Nat.le_of_ble_eq_true rfl) dX6_item_46 (fun vv uu H locs hp hw => ?_)
        obtain ⟨rfl, v3, T3, hp2⟩ := hp
        rw [hzz] at hp2
        subst hp2
        refine W.eq (g2 := F0 m 49 ls []) rfl ?_
        have hw : zHw x A s.heap (zMW x a (zTq (g 6) n y1 q0 v3 0) g nu (zflat S1)) H locs := hw
        refine lv_goto (tgt := 132) hx hb dX6_item_49 (by decide) ?_
        exact zFG.vret hx hb hr hlocks hQ hw rfl dX6_item_132 ⟨rfl, v3, S, by rw [show zIt (g 6) n y S = zSq (g 6) n y S from (if_neg hk).trans (if_pos hs), hzz]⟩
  · refine zcVwi (r := zKn (g 6) n y) hx hb hml hown hts hl.1 hK hE hA lkX6_269 (c_X6_kindHere x a g nu S n y q0 v hn hy) ⟨Nat.le_of_ble_eq_true rfl, Nat.le_of_ble_eq_true rfl⟩ ⟨Nat.zero_le _, Nat.zero_le _⟩ hw 0 4 rfl rfl rfl rfl (Nat.le_of_ble_eq_true rfl) dX6_item_1 (fun H locs hw => ?_)
    have hw : zHw x A s.heap (zMW x a (zTq (g 6) n y q0 v 0) g nu (zflat S)) H locs := hw
    refine W.eq (g2 := F0 m 4 ls [.int (-1)]) (by rw [show zKn (g 6) n y = _ from if_neg hk]) ?_
    refine lv_istore_n (lv' := [(1, .int (-1)), (0, .ref (a 0))]) hx hb dX6_item_4 rfl hl (by decide) rfl (fun ls hl => ?_)
    refine lv_aload_n hx hb dX6_item_5 rfl (lv_at hl 1 rfl) ?_
    refine zcVwl (r := lN (zWv (g 6) n y)) hx hb hml hown hts hl.1 hK hE hA lkX6_228 (c_X6_word_0 x a g nu (zflat S) n y q0 v hn hy) ⟨Nat.le_of_ble_eq_true rfl, Nat.le_of_ble_eq_true rfl⟩ ⟨Nat.zero_le _, Nat.zero_le _⟩ hw 0 4 rfl rfl rfl rfl (Nat.le_of_ble_eq_true rfl) dX6_item_6 (fun H locs hw => ?_)
    have hw : zHw x A s.heap (zMW x a (zTq (g 6) n y q0 v 0) g nu (zflat S)) H locs := hw
    refine lv_lstore_n (lv' := [(2, .long (lN (zWv (g 6) n y))), (1, .int (-1)), (0, .ref (a 0))]) hx hb dX6_item_9 rfl hl (by decide) rfl (fun ls hl => ?_)
    refine lv_lload_n hx hb dX6_item_10 rfl (lv_at hl 0 rfl) ?_
    refine lv_ldc2 (v := 89267380) hx hb hown (hts _ ckX6_272) dX6_item_11 ?_
    refine W.lcmp hx hb dX6_item_14 ?_
    refine lv_if_ne (tgt := 22) hx hb dX6_item_15 (by decide) (fun c15 => absurd c15 (fun h => h ((lg_cmp_eq _ _).mpr ((zWc (i := 14) (by decide) zwc14).mpr hb1)))) (fun c15 => ?_)
    refine lv_iconst (v := 1) hx hb dX6_item_18 (by decide) ?_
    refine lv_goto (tgt := 23) hx hb dX6_item_19 (by decide) ?_
    refine lv_istore (lv' := [(4, .int 1), (2, .long (lN (zWv (g 6) n y))), (1, .int (-1)), (0, .ref (a 0))]) hx hb dX6_item_23 hl (by decide) rfl (fun ls hl => ?_)
    refine lv_iload_n hx hb dX6_item_25 rfl (lv_at hl 2 rfl) ?_
    refine lv_if_lt (tgt := 37) hx hb dX6_item_26 (by decide) (fun c26 => ?_) (fun c26 => absurd (by decide) c26)
    refine lv_lload_n hx hb dX6_item_37 rfl (lv_at hl 1 rfl) ?_
    refine lv_ldc2 (v := 659100852) hx hb hown (hts _ ckX6_277) dX6_item_38 ?_
    refine W.lcmp hx hb dX6_item_41 ?_
    refine lv_if_ne (tgt := 52) hx hb dX6_item_42 (by decide) (fun c42 => ?_) (fun c42 => absurd c42 (fun h => hs ((zWc (i := 11) (by decide) zwc11).mp ((lg_cmp_eq _ _).mp h))))
    refine lv_aload_n hx hb dX6_item_52 rfl (lv_at hl 3 rfl) ?_
    refine lv_iload hx hb dX6_item_53 (lv_at hl 0 rfl) ?_
    refine lv_if_ne (tgt := 66) hx hb dX6_item_55 (by decide) (fun c55 => ?_) (fun c55 => absurd c55 (by decide))
    refine lv_iconst (v := 1) hx hb dX6_item_66 (by decide) ?_
    refine lv_goto (tgt := 71) hx hb dX6_item_67 (by decide) ?_
    refine zcVwv hx hb hml hown hts hl.1 hK hE hA lkX6_224 (c_X6_must_t x a g nu (zflat S) n y q0 v hn hy) ⟨Nat.le_of_ble_eq_true rfl, Nat.le_of_ble_eq_true rfl⟩ ⟨Nat.zero_le _, Nat.zero_le _⟩ hw 0 4 rfl rfl rfl rfl (Nat.le_of_ble_eq_true rfl) dX6_item_71 (fun H locs hw => ?_)
    have hw : zHw x A s.heap (zMW x a (zTq (g 6) n (zNx (g 6) n y) q0 v 0) g nu (zflat S)) H locs := hw
    rcases hz : zNu (g 6) n (zNx (g 6) n y) 9999 with _ | z
    · refine lv_aload_n hx hb dX6_item_74 rfl (lv_at hl 3 rfl) ?_
      refine lv_iconst (v := 0) hx hb dX6_item_75 (by decide) ?_
      refine lv_iload hx hb dX6_item_76 (lv_at hl 0 rfl) ?_
      refine lv_if_eq (tgt := 87) hx hb dX6_item_78 (by decide) (fun c78 => absurd c78 (by decide)) (fun c78 => ?_)
      refine lv_sipush (v := 9999) hx hb dX6_item_81 (by decide) ?_
      refine lv_goto (tgt := 89) hx hb dX6_item_84 (by decide) ?_
      refine zcVw hx hb hml hown hts hl.1 hK hE hA lkX6_244 (c_X6_number x a g nu (zflat S) n (zNx (g 6) n y) q0 v hn (zNx_le hy) 9999 (by first | decide | assumption)) ⟨Nat.le_of_ble_eq_true rfl, Nat.le_of_ble_eq_true rfl⟩ ⟨Nat.zero_le _, Nat.zero_le _⟩ hw 0 4 rfl rfl rfl rfl (Nat.le_of_ble_eq_true rfl) dX6_item_89 (fun vv uu H locs hp hw => ?_)
      obtain ⟨rfl, v2, hp2⟩ := hp
      rw [hz] at hp2
      subst hp2
      refine W.eq (g2 := F0 m 92 ls []) rfl ?_
      have hw : zHw x A s.heap (zMW x a (zTq (g 6) n (zNx (g 6) n y) q0 v2 1) g nu (zflat S)) H locs := hw
      refine lv_iload hx hb dX6_item_92 (lv_at hl 0 rfl) ?_
      refine lv_if_eq (tgt := 101) hx hb dX6_item_94 (by decide) (fun c94 => absurd c94 (by decide)) (fun c94 => ?_)
      refine lv_iconst (v := 2) hx hb dX6_item_97 (by decide) ?_
      refine lv_goto (tgt := 102) hx hb dX6_item_98 (by decide) ?_
      refine lv_istore (lv' := [(5, .int 2), (4, .int 1), (2, .long (lN (zWv (g 6) n y))), (1, .int (-1)), (0, .ref (a 0))]) hx hb dX6_item_102 hl (by decide) rfl (fun ls hl => ?_)
      refine lv_aload_n hx hb dX6_item_104 rfl (lv_at hl 4 rfl) ?_
      refine gfX6_7 hx hb hown hts hK hw 0 rfl rfl dX6_item_105 ?_
      refine lv_iload hx hb dX6_item_108 (lv_at hl 0 rfl) ?_
      refine lv_aload_n hx hb dX6_item_110 rfl (lv_at hl 4 rfl) ?_
      refine gfX6_210 hx hb hown hts hK hw 0 rfl rfl dX6_item_111 ?_
      refine W.eq (g2 := F0 m 114 ls [.int 1, .int 2, .ref (a 1)]) (by rfl) ?_
      refine lv_if_eq (tgt := 127) hx hb dX6_item_114 (by decide) (fun c114 => absurd c114 (by decide)) (fun c114 => ?_)
      refine lv_aload_n hx hb dX6_item_117 rfl (lv_at hl 4 rfl) ?_
      refine gfX6_7 hx hb hown hts hK hw 0 rfl rfl dX6_item_118 ?_
      refine lv_iload hx hb dX6_item_121 (lv_at hl 0 rfl) ?_
      refine zial2 (v := S 0 2) hx hb hK hw 1 0 2 rfl rfl rfl (by decide) (by decide) dX6_item_123 rfl ?_
      refine lv_goto (tgt := 131) hx hb dX6_item_124 (by decide) ?_
      refine zias2 (f' := zflat (zU S 0 2 (S 0 2))) hx hb hK hw 1 0 2 rfl rfl rfl (by decide) (by decide) dX6_item_131 (zflat_usc S _ (by decide)) (fun H locs hw => ?_)
      have hw : zHw x A s.heap (zMW x a (zTq (g 6) n (zNx (g 6) n y) q0 v2 1) g nu (zflat (zU S 0 2 (S 0 2)))) H locs := hw
      exact zFG.vret hx hb hr hlocks hQ hw rfl dX6_item_132 ⟨rfl, v2, S, by rw [show zIt (g 6) n y S = zFg (g 6) n y S 2 9999 from (if_neg hk).trans ((if_neg hs).trans (if_pos hb1)), zFg_0 hz, zU_self]⟩
    · refine lv_aload_n hx hb dX6_item_74 rfl (lv_at hl 3 rfl) ?_
      refine lv_iconst (v := 0) hx hb dX6_item_75 (by decide) ?_
      refine lv_iload hx hb dX6_item_76 (lv_at hl 0 rfl) ?_
      refine lv_if_eq (tgt := 87) hx hb dX6_item_78 (by decide) (fun c78 => absurd c78 (by decide)) (fun c78 => ?_)
      refine lv_sipush (v := 9999) hx hb dX6_item_81 (by decide) ?_
      refine lv_goto (tgt := 89) hx hb dX6_item_84 (by decide) ?_
      refine zcVw hx hb hml hown hts hl.1 hK hE hA lkX6_244 (c_X6_number x a g nu (zflat S) n (zNx (g 6) n y) q0 v hn (zNx_le hy) 9999 (by first | decide | assumption)) ⟨Nat.le_of_ble_eq_true rfl, Nat.le_of_ble_eq_true rfl⟩ ⟨Nat.zero_le _, Nat.zero_le _⟩ hw 0 4 rfl rfl rfl rfl (Nat.le_of_ble_eq_true rfl) dX6_item_89 (fun vv uu H locs hp hw => ?_)
      obtain ⟨rfl, v2, hp2⟩ := hp
      rw [hz] at hp2
      subst hp2
      refine W.eq (g2 := F0 m 92 ls []) rfl ?_
      have hw : zHw x A s.heap (zMW x a (zTq (g 6) n (zNx (g 6) n (zNx (g 6) n y)) q0 (nI z) 0) g nu (zflat S)) H locs := hw
      refine lv_iload hx hb dX6_item_92 (lv_at hl 0 rfl) ?_
      refine lv_if_eq (tgt := 101) hx hb dX6_item_94 (by decide) (fun c94 => absurd c94 (by decide)) (fun c94 => ?_)
      refine lv_iconst (v := 2) hx hb dX6_item_97 (by decide) ?_
      refine lv_goto (tgt := 102) hx hb dX6_item_98 (by decide) ?_
      refine lv_istore (lv' := [(5, .int 2), (4, .int 1), (2, .long (lN (zWv (g 6) n y))), (1, .int (-1)), (0, .ref (a 0))]) hx hb dX6_item_102 hl (by decide) rfl (fun ls hl => ?_)
      refine lv_aload_n hx hb dX6_item_104 rfl (lv_at hl 4 rfl) ?_
      refine gfX6_7 hx hb hown hts hK hw 0 rfl rfl dX6_item_105 ?_
      refine lv_iload hx hb dX6_item_108 (lv_at hl 0 rfl) ?_
      refine lv_aload_n hx hb dX6_item_110 rfl (lv_at hl 4 rfl) ?_
      refine gfX6_210 hx hb hown hts hK hw 0 rfl rfl dX6_item_111 ?_
      refine W.eq (g2 := F0 m 114 ls [.int 0, .int 2, .ref (a 1)]) (by rfl) ?_
      refine lv_if_eq (tgt := 127) hx hb dX6_item_114 (by decide) (fun c114 => ?_) (fun c114 => absurd (by decide) c114)
      refine lv_aload_n hx hb dX6_item_127 rfl (lv_at hl 4 rfl) ?_
      refine gfX6_221 hx hb hown hts hK hw 0 rfl rfl dX6_item_128 ?_
      refine W.eq (g2 := F0 m 131 ls [.int (nI z), .int 2, .ref (a 1)]) (by rfl) ?_
      refine zias2 (f' := zflat (zU S 0 2 (nI z))) hx hb hK hw 1 0 2 rfl rfl rfl (by decide) (by decide) dX6_item_131 (zflat_usc S _ (by decide)) (fun H locs hw => ?_)
      have hw : zHw x A s.heap (zMW x a (zTq (g 6) n (zNx (g 6) n (zNx (g 6) n y)) q0 (nI z) 0) g nu (zflat (zU S 0 2 (nI z)))) H locs := hw
      exact zFG.vret hx hb hr hlocks hQ hw rfl dX6_item_132 ⟨rfl, nI z, S, by rw [show zIt (g 6) n y S = zFg (g 6) n y S 2 9999 from (if_neg hk).trans ((if_neg hs).trans (if_pos hb1)), zFg_1 hz]⟩
  · refine zcVwi (r := zKn (g 6) n y) hx hb hml hown hts hl.1 hK hE hA lkX6_269 (c_X6_kindHere x a g nu S n y q0 v hn hy) ⟨Nat.le_of_ble_eq_true rfl, Nat.le_of_ble_eq_true rfl⟩ ⟨Nat.zero_le _, Nat.zero_le _⟩ hw 0 4 rfl rfl rfl rfl (Nat.le_of_ble_eq_true rfl) dX6_item_1 (fun H locs hw => ?_)
    have hw : zHw x A s.heap (zMW x a (zTq (g 6) n y q0 v 0) g nu (zflat S)) H locs := hw
    refine W.eq (g2 := F0 m 4 ls [.int (-1)]) (by rw [show zKn (g 6) n y = _ from if_neg hk]) ?_
    refine lv_istore_n (lv' := [(1, .int (-1)), (0, .ref (a 0))]) hx hb dX6_item_4 rfl hl (by decide) rfl (fun ls hl => ?_)
    refine lv_aload_n hx hb dX6_item_5 rfl (lv_at hl 1 rfl) ?_
    refine zcVwl (r := lN (zWv (g 6) n y)) hx hb hml hown hts hl.1 hK hE hA lkX6_228 (c_X6_word_0 x a g nu (zflat S) n y q0 v hn hy) ⟨Nat.le_of_ble_eq_true rfl, Nat.le_of_ble_eq_true rfl⟩ ⟨Nat.zero_le _, Nat.zero_le _⟩ hw 0 4 rfl rfl rfl rfl (Nat.le_of_ble_eq_true rfl) dX6_item_6 (fun H locs hw => ?_)
    have hw : zHw x A s.heap (zMW x a (zTq (g 6) n y q0 v 0) g nu (zflat S)) H locs := hw
    refine lv_lstore_n (lv' := [(2, .long (lN (zWv (g 6) n y))), (1, .int (-1)), (0, .ref (a 0))]) hx hb dX6_item_9 rfl hl (by decide) rfl (fun ls hl => ?_)
    refine lv_lload_n hx hb dX6_item_10 rfl (lv_at hl 0 rfl) ?_
    refine lv_ldc2 (v := 89267380) hx hb hown (hts _ ckX6_272) dX6_item_11 ?_
    refine W.lcmp hx hb dX6_item_14 ?_
    refine lv_if_ne (tgt := 22) hx hb dX6_item_15 (by decide) (fun c15 => ?_) (fun c15 => absurd c15 (fun h => hb1 ((zWc (i := 14) (by decide) zwc14).mp ((lg_cmp_eq _ _).mp h))))
    refine lv_iconst (v := 0) hx hb dX6_item_22 (by decide) ?_
    refine lv_istore (lv' := [(4, .int 0), (2, .long (lN (zWv (g 6) n y))), (1, .int (-1)), (0, .ref (a 0))]) hx hb dX6_item_23 hl (by decide) rfl (fun ls hl => ?_)
    refine lv_iload_n hx hb dX6_item_25 rfl (lv_at hl 2 rfl) ?_
    refine lv_if_lt (tgt := 37) hx hb dX6_item_26 (by decide) (fun c26 => ?_) (fun c26 => absurd (by decide) c26)
    refine lv_lload_n hx hb dX6_item_37 rfl (lv_at hl 1 rfl) ?_
    refine lv_ldc2 (v := 659100852) hx hb hown (hts _ ckX6_277) dX6_item_38 ?_
    refine W.lcmp hx hb dX6_item_41 ?_
    refine lv_if_ne (tgt := 52) hx hb dX6_item_42 (by decide) (fun c42 => ?_) (fun c42 => absurd c42 (fun h => hs ((zWc (i := 11) (by decide) zwc11).mp ((lg_cmp_eq _ _).mp h))))
    refine lv_aload_n hx hb dX6_item_52 rfl (lv_at hl 3 rfl) ?_
    refine lv_iload hx hb dX6_item_53 (lv_at hl 0 rfl) ?_
    refine lv_if_ne (tgt := 66) hx hb dX6_item_55 (by decide) (fun c55 => absurd c55 (by decide)) (fun c55 => ?_)
    refine lv_lload_n hx hb dX6_item_58 rfl (lv_at hl 1 rfl) ?_
    refine lv_ldc2 (v := 13486) hx hb hown (hts _ ckX6_282) dX6_item_59 ?_
    refine W.lcmp hx hb dX6_item_62 ?_
    refine lv_if_ne (tgt := 70) hx hb dX6_item_63 (by decide) (fun c63 => absurd c63 (fun h => h ((lg_cmp_eq _ _).mpr ((zWc (i := 15) (by decide) zwc15).mpr hm1)))) (fun c63 => ?_)
    refine lv_iconst (v := 1) hx hb dX6_item_66 (by decide) ?_
    refine lv_goto (tgt := 71) hx hb dX6_item_67 (by decide) ?_
    refine zcVwv hx hb hml hown hts hl.1 hK hE hA lkX6_224 (c_X6_must_t x a g nu (zflat S) n y q0 v hn hy) ⟨Nat.le_of_ble_eq_true rfl, Nat.le_of_ble_eq_true rfl⟩ ⟨Nat.zero_le _, Nat.zero_le _⟩ hw 0 4 rfl rfl rfl rfl (Nat.le_of_ble_eq_true rfl) dX6_item_71 (fun H locs hw => ?_)
    have hw : zHw x A s.heap (zMW x a (zTq (g 6) n (zNx (g 6) n y) q0 v 0) g nu (zflat S)) H locs := hw
    rcases hz : zNu (g 6) n (zNx (g 6) n y) 6 with _ | z
    · refine lv_aload_n hx hb dX6_item_74 rfl (lv_at hl 3 rfl) ?_
      refine lv_iconst (v := 0) hx hb dX6_item_75 (by decide) ?_
      refine lv_iload hx hb dX6_item_76 (lv_at hl 0 rfl) ?_
      refine lv_if_eq (tgt := 87) hx hb dX6_item_78 (by decide) (fun c78 => ?_) (fun c78 => absurd (by decide) c78)
      refine lv_bipush (v := 6) hx hb dX6_item_87 (by decide) ?_
      refine zcVw hx hb hml hown hts hl.1 hK hE hA lkX6_244 (c_X6_number x a g nu (zflat S) n (zNx (g 6) n y) q0 v hn (zNx_le hy) 6 (by first | decide | assumption)) ⟨Nat.le_of_ble_eq_true rfl, Nat.le_of_ble_eq_true rfl⟩ ⟨Nat.zero_le _, Nat.zero_le _⟩ hw 0 4 rfl rfl rfl rfl (Nat.le_of_ble_eq_true rfl) dX6_item_89 (fun vv uu H locs hp hw => ?_)
      obtain ⟨rfl, v2, hp2⟩ := hp
      rw [hz] at hp2
      subst hp2
      refine W.eq (g2 := F0 m 92 ls []) rfl ?_
      have hw : zHw x A s.heap (zMW x a (zTq (g 6) n (zNx (g 6) n y) q0 v2 1) g nu (zflat S)) H locs := hw
      refine lv_iload hx hb dX6_item_92 (lv_at hl 0 rfl) ?_
      refine lv_if_eq (tgt := 101) hx hb dX6_item_94 (by decide) (fun c94 => ?_) (fun c94 => absurd (by decide) c94)
      refine lv_iconst (v := 4) hx hb dX6_item_101 (by decide) ?_
      refine lv_istore (lv' := [(5, .int 4), (4, .int 0), (2, .long (lN (zWv (g 6) n y))), (1, .int (-1)), (0, .ref (a 0))]) hx hb dX6_item_102 hl (by decide) rfl (fun ls hl => ?_)
      refine lv_aload_n hx hb dX6_item_104 rfl (lv_at hl 4 rfl) ?_
      refine gfX6_7 hx hb hown hts hK hw 0 rfl rfl dX6_item_105 ?_
      refine lv_iload hx hb dX6_item_108 (lv_at hl 0 rfl) ?_
      refine lv_aload_n hx hb dX6_item_110 rfl (lv_at hl 4 rfl) ?_
      refine gfX6_210 hx hb hown hts hK hw 0 rfl rfl dX6_item_111 ?_
      refine W.eq (g2 := F0 m 114 ls [.int 1, .int 4, .ref (a 1)]) (by rfl) ?_
      refine lv_if_eq (tgt := 127) hx hb dX6_item_114 (by decide) (fun c114 => absurd c114 (by decide)) (fun c114 => ?_)
      refine lv_aload_n hx hb dX6_item_117 rfl (lv_at hl 4 rfl) ?_
      refine gfX6_7 hx hb hown hts hK hw 0 rfl rfl dX6_item_118 ?_
      refine lv_iload hx hb dX6_item_121 (lv_at hl 0 rfl) ?_
      refine zial2 (v := S 0 4) hx hb hK hw 1 0 4 rfl rfl rfl (by decide) (by decide) dX6_item_123 rfl ?_
      refine lv_goto (tgt := 131) hx hb dX6_item_124 (by decide) ?_
      refine zias2 (f' := zflat (zU S 0 4 (S 0 4))) hx hb hK hw 1 0 4 rfl rfl rfl (by decide) (by decide) dX6_item_131 (zflat_usc S _ (by decide)) (fun H locs hw => ?_)
      have hw : zHw x A s.heap (zMW x a (zTq (g 6) n (zNx (g 6) n y) q0 v2 1) g nu (zflat (zU S 0 4 (S 0 4)))) H locs := hw
      exact zFG.vret hx hb hr hlocks hQ hw rfl dX6_item_132 ⟨rfl, v2, S, by rw [show zIt (g 6) n y S = zFg (g 6) n y S 4 6 from (if_neg hk).trans ((if_neg hs).trans ((if_neg hb1).trans (if_pos hm1))), zFg_0 hz, zU_self]⟩
    · refine lv_aload_n hx hb dX6_item_74 rfl (lv_at hl 3 rfl) ?_
      refine lv_iconst (v := 0) hx hb dX6_item_75 (by decide) ?_
      refine lv_iload hx hb dX6_item_76 (lv_at hl 0 rfl) ?_
      refine lv_if_eq (tgt := 87) hx hb dX6_item_78 (by decide) (fun c78 => ?_) (fun c78 => absurd (by decide) c78)
      refine lv_bipush (v := 6) hx hb dX6_item_87 (by decide) ?_
      refine zcVw hx hb hml hown hts hl.1 hK hE hA lkX6_244 (c_X6_number x a g nu (zflat S) n (zNx (g 6) n y) q0 v hn (zNx_le hy) 6 (by first | decide | assumption)) ⟨Nat.le_of_ble_eq_true rfl, Nat.le_of_ble_eq_true rfl⟩ ⟨Nat.zero_le _, Nat.zero_le _⟩ hw 0 4 rfl rfl rfl rfl (Nat.le_of_ble_eq_true rfl) dX6_item_89 (fun vv uu H locs hp hw => ?_)
      obtain ⟨rfl, v2, hp2⟩ := hp
      rw [hz] at hp2
      subst hp2
      refine W.eq (g2 := F0 m 92 ls []) rfl ?_
      have hw : zHw x A s.heap (zMW x a (zTq (g 6) n (zNx (g 6) n (zNx (g 6) n y)) q0 (nI z) 0) g nu (zflat S)) H locs := hw
      refine lv_iload hx hb dX6_item_92 (lv_at hl 0 rfl) ?_
      refine lv_if_eq (tgt := 101) hx hb dX6_item_94 (by decide) (fun c94 => ?_) (fun c94 => absurd (by decide) c94)
      refine lv_iconst (v := 4) hx hb dX6_item_101 (by decide) ?_
      refine lv_istore (lv' := [(5, .int 4), (4, .int 0), (2, .long (lN (zWv (g 6) n y))), (1, .int (-1)), (0, .ref (a 0))]) hx hb dX6_item_102 hl (by decide) rfl (fun ls hl => ?_)
      refine lv_aload_n hx hb dX6_item_104 rfl (lv_at hl 4 rfl) ?_
      refine gfX6_7 hx hb hown hts hK hw 0 rfl rfl dX6_item_105 ?_
      refine lv_iload hx hb dX6_item_108 (lv_at hl 0 rfl) ?_
      refine lv_aload_n hx hb dX6_item_110 rfl (lv_at hl 4 rfl) ?_
      refine gfX6_210 hx hb hown hts hK hw 0 rfl rfl dX6_item_111 ?_
      refine W.eq (g2 := F0 m 114 ls [.int 0, .int 4, .ref (a 1)]) (by rfl) ?_
      refine lv_if_eq (tgt := 127) hx hb dX6_item_114 (by decide) (fun c114 => ?_) (fun c114 => absurd (by decide) c114)
      refine lv_aload_n hx hb dX6_item_127 rfl (lv_at hl 4 rfl) ?_
      refine gfX6_221 hx hb hown hts hK hw 0 rfl rfl dX6_item_128 ?_
      refine W.eq (g2 := F0 m 131 ls [.int (nI z), .int 4, .ref (a 1)]) (by rfl) ?_
      refine zias2 (f' := zflat (zU S 0 4 (nI z))) hx hb hK hw 1 0 4 rfl rfl rfl (by decide) (by decide) dX6_item_131 (zflat_usc S _ (by decide)) (fun H locs hw => ?_)
      have hw : zHw x A s.heap (zMW x a (zTq (g 6) n (zNx (g 6) n (zNx (g 6) n y)) q0 (nI z) 0) g nu (zflat (zU S 0 4 (nI z)))) H locs := hw
      exact zFG.vret hx hb hr hlocks hQ hw rfl dX6_item_132 ⟨rfl, nI z, S, by rw [show zIt (g 6) n y S = zFg (g 6) n y S 4 6 from (if_neg hk).trans ((if_neg hs).trans ((if_neg hb1).trans (if_pos hm1))), zFg_1 hz]⟩
  · refine zcVwi (r := zKn (g 6) n y) hx hb hml hown hts hl.1 hK hE hA lkX6_269 (c_X6_kindHere x a g nu S n y q0 v hn hy) ⟨Nat.le_of_ble_eq_true rfl, Nat.le_of_ble_eq_true rfl⟩ ⟨Nat.zero_le _, Nat.zero_le _⟩ hw 0 4 rfl rfl rfl rfl (Nat.le_of_ble_eq_true rfl) dX6_item_1 (fun H locs hw => ?_)
    have hw : zHw x A s.heap (zMW x a (zTq (g 6) n y q0 v 0) g nu (zflat S)) H locs := hw
    refine W.eq (g2 := F0 m 4 ls [.int (-1)]) (by rw [show zKn (g 6) n y = _ from if_neg hk]) ?_
    refine lv_istore_n (lv' := [(1, .int (-1)), (0, .ref (a 0))]) hx hb dX6_item_4 rfl hl (by decide) rfl (fun ls hl => ?_)
    refine lv_aload_n hx hb dX6_item_5 rfl (lv_at hl 1 rfl) ?_
    refine zcVwl (r := lN (zWv (g 6) n y)) hx hb hml hown hts hl.1 hK hE hA lkX6_228 (c_X6_word_0 x a g nu (zflat S) n y q0 v hn hy) ⟨Nat.le_of_ble_eq_true rfl, Nat.le_of_ble_eq_true rfl⟩ ⟨Nat.zero_le _, Nat.zero_le _⟩ hw 0 4 rfl rfl rfl rfl (Nat.le_of_ble_eq_true rfl) dX6_item_6 (fun H locs hw => ?_)
    have hw : zHw x A s.heap (zMW x a (zTq (g 6) n y q0 v 0) g nu (zflat S)) H locs := hw
    refine lv_lstore_n (lv' := [(2, .long (lN (zWv (g 6) n y))), (1, .int (-1)), (0, .ref (a 0))]) hx hb dX6_item_9 rfl hl (by decide) rfl (fun ls hl => ?_)
    refine lv_lload_n hx hb dX6_item_10 rfl (lv_at hl 0 rfl) ?_
    refine lv_ldc2 (v := 89267380) hx hb hown (hts _ ckX6_272) dX6_item_11 ?_
    refine W.lcmp hx hb dX6_item_14 ?_
    refine lv_if_ne (tgt := 22) hx hb dX6_item_15 (by decide) (fun c15 => ?_) (fun c15 => absurd c15 (fun h => hb1 ((zWc (i := 14) (by decide) zwc14).mp ((lg_cmp_eq _ _).mp h))))
    refine lv_iconst (v := 0) hx hb dX6_item_22 (by decide) ?_
    refine lv_istore (lv' := [(4, .int 0), (2, .long (lN (zWv (g 6) n y))), (1, .int (-1)), (0, .ref (a 0))]) hx hb dX6_item_23 hl (by decide) rfl (fun ls hl => ?_)
    refine lv_iload_n hx hb dX6_item_25 rfl (lv_at hl 2 rfl) ?_
    refine lv_if_lt (tgt := 37) hx hb dX6_item_26 (by decide) (fun c26 => ?_) (fun c26 => absurd (by decide) c26)
    refine lv_lload_n hx hb dX6_item_37 rfl (lv_at hl 1 rfl) ?_
    refine lv_ldc2 (v := 659100852) hx hb hown (hts _ ckX6_277) dX6_item_38 ?_
    refine W.lcmp hx hb dX6_item_41 ?_
    refine lv_if_ne (tgt := 52) hx hb dX6_item_42 (by decide) (fun c42 => ?_) (fun c42 => absurd c42 (fun h => hs ((zWc (i := 11) (by decide) zwc11).mp ((lg_cmp_eq _ _).mp h))))
    refine lv_aload_n hx hb dX6_item_52 rfl (lv_at hl 3 rfl) ?_
    refine lv_iload hx hb dX6_item_53 (lv_at hl 0 rfl) ?_
    refine lv_if_ne (tgt := 66) hx hb dX6_item_55 (by decide) (fun c55 => absurd c55 (by decide)) (fun c55 => ?_)
    refine lv_lload_n hx hb dX6_item_58 rfl (lv_at hl 1 rfl) ?_
    refine lv_ldc2 (v := 13486) hx hb hown (hts _ ckX6_282) dX6_item_59 ?_
    refine W.lcmp hx hb dX6_item_62 ?_
    refine lv_if_ne (tgt := 70) hx hb dX6_item_63 (by decide) (fun c63 => ?_) (fun c63 => absurd c63 (fun h => hm1 ((zWc (i := 15) (by decide) zwc15).mp ((lg_cmp_eq _ _).mp h))))
    refine lv_iconst (v := 0) hx hb dX6_item_70 (by decide) ?_
    refine zcVwv hx hb hml hown hts hl.1 hK hE hA lkX6_224 (c_X6_must_f x a g nu (zflat S) n y q0 v hn hy) ⟨Nat.le_of_ble_eq_true rfl, Nat.le_of_ble_eq_true rfl⟩ ⟨Nat.zero_le _, Nat.zero_le _⟩ hw 0 4 rfl rfl rfl rfl (Nat.le_of_ble_eq_true rfl) dX6_item_71 (fun H locs hw => ?_)
    have hw : zHw x A s.heap (zMW x a (zTq (g 6) n y q0 v 1) g nu (zflat S)) H locs := hw
    refine lv_aload_n hx hb dX6_item_74 rfl (lv_at hl 3 rfl) ?_
    refine lv_iconst (v := 0) hx hb dX6_item_75 (by decide) ?_
    refine lv_iload hx hb dX6_item_76 (lv_at hl 0 rfl) ?_
    refine lv_if_eq (tgt := 87) hx hb dX6_item_78 (by decide) (fun c78 => ?_) (fun c78 => absurd (by decide) c78)
    refine lv_bipush (v := 6) hx hb dX6_item_87 (by decide) ?_
    refine zcVwv hx hb hml hown hts hl.1 hK hE hA lkX6_244 (c_X6_number_w x a g nu (zflat S) n y q0 v hn hy 0 6) ⟨Nat.le_of_ble_eq_true rfl, Nat.le_of_ble_eq_true rfl⟩ ⟨Nat.zero_le _, Nat.zero_le _⟩ hw 0 4 rfl rfl rfl rfl (Nat.le_of_ble_eq_true rfl) dX6_item_89 (fun H locs hw => ?_)
    have hw : zHw x A s.heap (zMW x a (zTq (g 6) n y q0 v 1) g nu (zflat S)) H locs := hw
    refine lv_iload hx hb dX6_item_92 (lv_at hl 0 rfl) ?_
    refine lv_if_eq (tgt := 101) hx hb dX6_item_94 (by decide) (fun c94 => ?_) (fun c94 => absurd (by decide) c94)
    refine lv_iconst (v := 4) hx hb dX6_item_101 (by decide) ?_
    refine lv_istore (lv' := [(5, .int 4), (4, .int 0), (2, .long (lN (zWv (g 6) n y))), (1, .int (-1)), (0, .ref (a 0))]) hx hb dX6_item_102 hl (by decide) rfl (fun ls hl => ?_)
    refine lv_aload_n hx hb dX6_item_104 rfl (lv_at hl 4 rfl) ?_
    refine gfX6_7 hx hb hown hts hK hw 0 rfl rfl dX6_item_105 ?_
    refine lv_iload hx hb dX6_item_108 (lv_at hl 0 rfl) ?_
    refine lv_aload_n hx hb dX6_item_110 rfl (lv_at hl 4 rfl) ?_
    refine gfX6_210 hx hb hown hts hK hw 0 rfl rfl dX6_item_111 ?_
    refine W.eq (g2 := F0 m 114 ls [.int 1, .int 4, .ref (a 1)]) (by rfl) ?_
    refine lv_if_eq (tgt := 127) hx hb dX6_item_114 (by decide) (fun c114 => absurd c114 (by decide)) (fun c114 => ?_)
    refine lv_aload_n hx hb dX6_item_117 rfl (lv_at hl 4 rfl) ?_
    refine gfX6_7 hx hb hown hts hK hw 0 rfl rfl dX6_item_118 ?_
    refine lv_iload hx hb dX6_item_121 (lv_at hl 0 rfl) ?_
    refine zial2 (v := S 0 4) hx hb hK hw 1 0 4 rfl rfl rfl (by decide) (by decide) dX6_item_123 rfl ?_
    refine lv_goto (tgt := 131) hx hb dX6_item_124 (by decide) ?_
    refine zias2 (f' := zflat (zU S 0 4 (S 0 4))) hx hb hK hw 1 0 4 rfl rfl rfl (by decide) (by decide) dX6_item_131 (zflat_usc S _ (by decide)) (fun H locs hw => ?_)
    have hw : zHw x A s.heap (zMW x a (zTq (g 6) n y q0 v 1) g nu (zflat (zU S 0 4 (S 0 4)))) H locs := hw
    exact zFG.vret hx hb hr hlocks hQ hw rfl dX6_item_132 ⟨rfl, v, S, by rw [show zIt (g 6) n y S = .inl y from (if_neg hk).trans ((if_neg hs).trans ((if_neg hb1).trans (if_neg hm1))), zU_self]⟩
