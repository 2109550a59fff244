set_option maxHeartbeats 4000000 in
set_option maxRecDepth 100000 in
theorem c_X0_isFrost (x : zX) (w : va_W) (v : Int32) : zFF x mX0_isFrost 0 [.int v] (w) (some (.int (zb (zFr v)))) (w) := by
  refine zFG.start RX0 cX0_isFrost 1 (some .boolean) rfl rfl (by decide +kernel) (Nat.le_of_ble_eq_true rfl) ?_
  intro p e s m ar below meth c ls A Q hx hb hr hml hown hts hlocks hK hE hA hQ hl hw
  have hl : lv_has ls 1 [(0, .int v)] := hl
  have hw : zHw x A s.heap (w) s.heap [] := hw
  refine lv_iload_n hx hb dX0_isFrost_0 rfl (lv_at hl 0 rfl) ?_
  refine lv_bipush (v := 10) hx hb dX0_isFrost_1 (by decide) ?_
  refine lv_icmp_lt (tgt := 12) hx hb dX0_isFrost_3 (by decide) (fun c3 => ?_) (fun c3 => ?_)
  · refine lv_iconst (v := 1) hx hb dX0_isFrost_12 (by decide) ?_
    refine lv_goto (tgt := 17) hx hb dX0_isFrost_13 (by decide) ?_
    exact zFG.zret hx hb hr hlocks hQ hw rfl dX0_isFrost_17 (by decide) ⟨by simp [zb, zFr, c3], rfl⟩
  · refine lv_iload_n hx hb dX0_isFrost_6 rfl (lv_at hl 0 rfl) ?_
    refine lv_bipush (v := 46) hx hb dX0_isFrost_7 (by decide) ?_
    refine lv_icmp_lt (tgt := 16) hx hb dX0_isFrost_9 (by decide) (fun c9 => ?_) (fun c9 => ?_)
    · refine lv_iconst (v := 0) hx hb dX0_isFrost_16 (by decide) ?_
      exact zFG.zret hx hb hr hlocks hQ hw rfl dX0_isFrost_17 (by decide) ⟨by simp [zb, zFr, c3, c9], rfl⟩
    · refine lv_iconst (v := 1) hx hb dX0_isFrost_12 (by decide) ?_
      refine lv_goto (tgt := 17) hx hb dX0_isFrost_13 (by decide) ?_
      exact zFG.zret hx hb hr hlocks hQ hw rfl dX0_isFrost_17 (by decide) ⟨by simp [zb, zFr, c3, c9], rfl⟩

set_option maxHeartbeats 4000000 in
set_option maxRecDepth 100000 in
theorem c_X0_growth (x : zX) (w : va_W) (k z v t : Int32) (ht : zIn t 99) (hz : zIn z 99) : zFF x mX0_growth 1 [.int k, .int z, .int v, .int t] (w) (some (.int (zGr k z v t))) (w) := by
  refine zFG.start RX0 cX0_growth 7 (some .int) rfl rfl (by decide +kernel) (Nat.le_of_ble_eq_true rfl) ?_
  intro p e s m ar below meth c ls A Q hx hb hr hml hown hts hlocks hK hE hA hQ hl hw
  have hl : lv_has ls 7 [(0, .int k), (1, .int z), (2, .int v), (3, .int t)] := hl
  have hw : zHw x A s.heap (w) s.heap [] := hw
  refine lv_iload_n hx hb dX0_growth_0 rfl (lv_at hl 2 rfl) ?_
  refine zcSwi (r := zb (zFr v)) hx hb hml hown hts hl.1 hK hE hA lkX0_9 (c_X0_isFrost x (w) v) ⟨Nat.le_of_ble_eq_true rfl, Nat.le_of_ble_eq_true rfl⟩ ⟨Nat.zero_le _, Nat.zero_le _⟩ hw rfl rfl (Nat.le_of_ble_eq_true rfl) dX0_growth_1 (fun H locs hw => ?_)
  have hw : zHw x A s.heap (w) H locs := hw
  refine lv_istore (lv' := [(4, .int (zb (zFr v))), (0, .int k), (1, .int z), (2, .int v), (3, .int t)]) hx hb dX0_growth_4 hl (by decide) rfl (fun ls hl => ?_)
  refine lv_iconst (v := 1) hx hb dX0_growth_6 (by decide) ?_
  refine lv_iload_n hx hb dX0_growth_7 rfl (lv_at hl 4 rfl) ?_
  refine lv_bipush (v := 10) hx hb dX0_growth_8 (by decide) ?_
  refine lv_idiv hx hb dX0_growth_10 (by decide) ?_
  refine lv_iadd hx hb dX0_growth_11 ?_
  refine lv_iload hx hb dX0_growth_12 (lv_at hl 0 rfl) ?_
  refine lv_if_eq (tgt := 21) hx hb dX0_growth_14 (by decide) (fun c14 => ?_) (fun c14 => ?_)
  · have c14 := zb_0.mp c14
    refine lv_iconst (v := 0) hx hb dX0_growth_21 (by decide) ?_
    refine lv_iadd hx hb dX0_growth_22 ?_
    refine lv_istore (lv' := [(5, .int ((1 + (t / 10)) + 0)), (4, .int (zb (zFr v))), (0, .int k), (1, .int z), (2, .int v), (3, .int t)]) hx hb dX0_growth_23 hl (by decide) rfl (fun ls hl => ?_)
    refine lv_iload hx hb dX0_growth_25 (lv_at hl 0 rfl) ?_
    refine lv_iload_n hx hb dX0_growth_27 rfl (lv_at hl 3 rfl) ?_
    refine lv_bipush (v := 20) hx hb dX0_growth_28 (by decide) ?_
    refine lv_idiv hx hb dX0_growth_30 (by decide) ?_
    refine lv_iadd hx hb dX0_growth_31 ?_
    refine lv_istore (lv' := [(6, .int (((1 + (t / 10)) + 0) + (z / 20))), (5, .int ((1 + (t / 10)) + 0)), (4, .int (zb (zFr v))), (0, .int k), (1, .int z), (2, .int v), (3, .int t)]) hx hb dX0_growth_32 hl (by decide) rfl (fun ls hl => ?_)
    refine lv_iload_n hx hb dX0_growth_34 rfl (lv_at hl 3 rfl) ?_
    rcases Decidable.em (k = 1) with k1 | k1
    · refine W.eq (g2 := F0 m 35 ls (.int 1 :: [])) (by rw [k1]) ?_
      refine lv_tableIn (off := 33) (tgt := 68) hx hb dX0_growth_35 (by decide) (by decide) (by decide) (by decide) ?_
      refine lv_iload hx hb dX0_growth_68 (lv_at hl 0 rfl) ?_
      exact zFG.iret hx hb hr hlocks hQ hw rfl dX0_growth_70 ⟨by simp [zGr, zPl, c14, k1], rfl⟩
    rcases Decidable.em (k = 2) with k2 | k2
    · refine W.eq (g2 := F0 m 35 ls (.int 2 :: [])) (by rw [k2]) ?_
      refine lv_tableIn (off := 36) (tgt := 71) hx hb dX0_growth_35 (by decide) (by decide) (by decide) (by decide) ?_
      refine lv_iconst (v := 1) hx hb dX0_growth_71 (by decide) ?_
      exact zFG.iret hx hb hr hlocks hQ hw rfl dX0_growth_72 ⟨by simp [zGr, zPl, c14, k1, k2], rfl⟩
    rcases Decidable.em (k = 3) with k3 | k3
    · refine W.eq (g2 := F0 m 35 ls (.int 3 :: [])) (by rw [k3]) ?_
      refine lv_tableIn (off := 38) (tgt := 73) hx hb dX0_growth_35 (by decide) (by decide) (by decide) (by decide) ?_
      refine lv_iload hx hb dX0_growth_73 (lv_at hl 1 rfl) ?_
      refine lv_iload_n hx hb dX0_growth_75 rfl (lv_at hl 5 rfl) ?_
      refine lv_bipush (v := 9) hx hb dX0_growth_76 (by decide) ?_
      refine lv_irem hx hb dX0_growth_78 (by decide) ?_
      refine lv_if_ne (tgt := 86) hx hb dX0_growth_79 (by decide) (fun c79 => ?_) (fun c79 => ?_)
      · refine lv_iconst (v := 0) hx hb dX0_growth_86 (by decide) ?_
        refine lv_iadd hx hb dX0_growth_87 ?_
        exact zFG.iret hx hb hr hlocks hQ hw rfl dX0_growth_88 ⟨by simp [zGr, zPl, c14, k1, k2, k3, c79], rfl⟩
      · refine lv_iconst (v := 3) hx hb dX0_growth_82 (by decide) ?_
        refine lv_goto (tgt := 87) hx hb dX0_growth_83 (by decide) ?_
        refine lv_iadd hx hb dX0_growth_87 ?_
        exact zFG.iret hx hb hr hlocks hQ hw rfl dX0_growth_88 ⟨by simp [zGr, zPl, c14, k1, k2, k3, c79], rfl⟩
    rcases Decidable.em (k = 4) with k4 | k4
    · refine W.eq (g2 := F0 m 35 ls (.int 4 :: [])) (by rw [k4]) ?_
      refine lv_tableIn (off := 54) (tgt := 89) hx hb dX0_growth_35 (by decide) (by decide) (by decide) (by decide) ?_
      refine lv_iconst (v := 0) hx hb dX0_growth_89 (by decide) ?_
      refine lv_iload hx hb dX0_growth_90 (lv_at hl 0 rfl) ?_
      refine lv_iconst (v := 1) hx hb dX0_growth_92 (by decide) ?_
      refine lv_isub hx hb dX0_growth_93 ?_
      refine zmax hx hb (hml.trans hl.1.symm) hown hts lkX0_15 zmath ⟨Nat.le_of_ble_eq_true rfl, Nat.le_of_ble_eq_true rfl, Nat.zero_le _, Nat.zero_le _⟩ dX0_growth_94 ?_
      exact zFG.iret hx hb hr hlocks hQ hw rfl dX0_growth_97 ⟨by have := zDu (w := v) (t := t) (z := z) ht hz; simp [zGr, zPl, c14, k1, k2, k3, k4] at this ⊢; exact this, rfl⟩
    rcases Decidable.em (k = 5) with k5 | k5
    · refine W.eq (g2 := F0 m 35 ls (.int 5 :: [])) (by rw [k5]) ?_
      refine lv_tableIn (off := 63) (tgt := 98) hx hb dX0_growth_35 (by decide) (by decide) (by decide) (by decide) ?_
      refine lv_iload hx hb dX0_growth_98 (lv_at hl 2 rfl) ?_
      refine lv_if_eq (tgt := 107) hx hb dX0_growth_100 (by decide) (fun c100 => ?_) (fun c100 => absurd (zb_0.mpr c14) c100)
      refine lv_iconst (v := 1) hx hb dX0_growth_107 (by decide) ?_
      exact zFG.iret hx hb hr hlocks hQ hw rfl dX0_growth_108 ⟨by simp [zGr, zPl, c14, k1, k2, k3, k4, k5], rfl⟩
    refine lv_tableOut (tgt := 109) hx hb dX0_growth_35 (zoutp5 k1 k2 k3 k4 k5) (by decide) ?_
    refine lv_iload hx hb dX0_growth_109 (lv_at hl 1 rfl) ?_
    exact zFG.iret hx hb hr hlocks hQ hw rfl dX0_growth_111 ⟨by simp [zGr, zPl, c14, k1, k2, k3, k4, k5], rfl⟩
  · have c14 := zb_n0.mp c14
    refine lv_iconst (v := 2) hx hb dX0_growth_17 (by decide) ?_
    refine lv_goto (tgt := 22) hx hb dX0_growth_18 (by decide) ?_
    refine lv_iadd hx hb dX0_growth_22 ?_
    refine lv_istore (lv' := [(5, .int ((1 + (t / 10)) + 2)), (4, .int (zb (zFr v))), (0, .int k), (1, .int z), (2, .int v), (3, .int t)]) hx hb dX0_growth_23 hl (by decide) rfl (fun ls hl => ?_)
    refine lv_iload hx hb dX0_growth_25 (lv_at hl 0 rfl) ?_
    refine lv_iload_n hx hb dX0_growth_27 rfl (lv_at hl 3 rfl) ?_
    refine lv_bipush (v := 20) hx hb dX0_growth_28 (by decide) ?_
    refine lv_idiv hx hb dX0_growth_30 (by decide) ?_
    refine lv_iadd hx hb dX0_growth_31 ?_
    refine lv_istore (lv' := [(6, .int (((1 + (t / 10)) + 2) + (z / 20))), (5, .int ((1 + (t / 10)) + 2)), (4, .int (zb (zFr v))), (0, .int k), (1, .int z), (2, .int v), (3, .int t)]) hx hb dX0_growth_32 hl (by decide) rfl (fun ls hl => ?_)
    refine lv_iload_n hx hb dX0_growth_34 rfl (lv_at hl 3 rfl) ?_
    rcases Decidable.em (k = 1) with k1 | k1
    · refine W.eq (g2 := F0 m 35 ls (.int 1 :: [])) (by rw [k1]) ?_
      refine lv_tableIn (off := 33) (tgt := 68) hx hb dX0_growth_35 (by decide) (by decide) (by decide) (by decide) ?_
      refine lv_iload hx hb dX0_growth_68 (lv_at hl 0 rfl) ?_
      exact zFG.iret hx hb hr hlocks hQ hw rfl dX0_growth_70 ⟨by simp [zGr, zPl, c14, k1], rfl⟩
    rcases Decidable.em (k = 2) with k2 | k2
    · refine W.eq (g2 := F0 m 35 ls (.int 2 :: [])) (by rw [k2]) ?_
      refine lv_tableIn (off := 36) (tgt := 71) hx hb dX0_growth_35 (by decide) (by decide) (by decide) (by decide) ?_
      refine lv_iconst (v := 1) hx hb dX0_growth_71 (by decide) ?_
      exact zFG.iret hx hb hr hlocks hQ hw rfl dX0_growth_72 ⟨by simp [zGr, zPl, c14, k1, k2], rfl⟩
    rcases Decidable.em (k = 3) with k3 | k3
    · refine W.eq (g2 := F0 m 35 ls (.int 3 :: [])) (by rw [k3]) ?_
      refine lv_tableIn (off := 38) (tgt := 73) hx hb dX0_growth_35 (by decide) (by decide) (by decide) (by decide) ?_
      refine lv_iload hx hb dX0_growth_73 (lv_at hl 1 rfl) ?_
      refine lv_iload_n hx hb dX0_growth_75 rfl (lv_at hl 5 rfl) ?_
      refine lv_bipush (v := 9) hx hb dX0_growth_76 (by decide) ?_
      refine lv_irem hx hb dX0_growth_78 (by decide) ?_
      refine lv_if_ne (tgt := 86) hx hb dX0_growth_79 (by decide) (fun c79 => ?_) (fun c79 => ?_)
      · refine lv_iconst (v := 0) hx hb dX0_growth_86 (by decide) ?_
        refine lv_iadd hx hb dX0_growth_87 ?_
        exact zFG.iret hx hb hr hlocks hQ hw rfl dX0_growth_88 ⟨by simp [zGr, zPl, c14, k1, k2, k3, c79], rfl⟩
      · refine lv_iconst (v := 3) hx hb dX0_growth_82 (by decide) ?_
        refine lv_goto (tgt := 87) hx hb dX0_growth_83 (by decide) ?_
        refine lv_iadd hx hb dX0_growth_87 ?_
        exact zFG.iret hx hb hr hlocks hQ hw rfl dX0_growth_88 ⟨by simp [zGr, zPl, c14, k1, k2, k3, c79], rfl⟩
    rcases Decidable.em (k = 4) with k4 | k4
    · refine W.eq (g2 := F0 m 35 ls (.int 4 :: [])) (by rw [k4]) ?_
      refine lv_tableIn (off := 54) (tgt := 89) hx hb dX0_growth_35 (by decide) (by decide) (by decide) (by decide) ?_
      refine lv_iconst (v := 0) hx hb dX0_growth_89 (by decide) ?_
      refine lv_iload hx hb dX0_growth_90 (lv_at hl 0 rfl) ?_
      refine lv_iconst (v := 1) hx hb dX0_growth_92 (by decide) ?_
      refine lv_isub hx hb dX0_growth_93 ?_
      refine zmax hx hb (hml.trans hl.1.symm) hown hts lkX0_15 zmath ⟨Nat.le_of_ble_eq_true rfl, Nat.le_of_ble_eq_true rfl, Nat.zero_le _, Nat.zero_le _⟩ dX0_growth_94 ?_
      exact zFG.iret hx hb hr hlocks hQ hw rfl dX0_growth_97 ⟨by have := zDu (w := v) (t := t) (z := z) ht hz; simp [zGr, zPl, c14, k1, k2, k3, k4] at this ⊢; exact this, rfl⟩
    rcases Decidable.em (k = 5) with k5 | k5
    · refine W.eq (g2 := F0 m 35 ls (.int 5 :: [])) (by rw [k5]) ?_
      refine lv_tableIn (off := 63) (tgt := 98) hx hb dX0_growth_35 (by decide) (by decide) (by decide) (by decide) ?_
      refine lv_iload hx hb dX0_growth_98 (lv_at hl 2 rfl) ?_
      refine lv_if_eq (tgt := 107) hx hb dX0_growth_100 (by decide) (fun c100 => absurd c100 (zb_n0.mpr c14)) (fun c100 => ?_)
      refine lv_iconst (v := 2) hx hb dX0_growth_103 (by decide) ?_
      refine lv_goto (tgt := 108) hx hb dX0_growth_104 (by decide) ?_
      exact zFG.iret hx hb hr hlocks hQ hw rfl dX0_growth_108 ⟨by simp [zGr, zPl, c14, k1, k2, k3, k4, k5], rfl⟩
    refine lv_tableOut (tgt := 109) hx hb dX0_growth_35 (zoutp5 k1 k2 k3 k4 k5) (by decide) ?_
    refine lv_iload hx hb dX0_growth_109 (lv_at hl 1 rfl) ?_
    exact zFG.iret hx hb hr hlocks hQ hw rfl dX0_growth_111 ⟨by simp [zGr, zPl, c14, k1, k2, k3, k4, k5], rfl⟩

set_option maxHeartbeats 4000000 in
set_option maxRecDepth 100000 in
theorem c_X0_holds (x : zX) (w : va_W) (k f : Int32) : zFF x mX0_holds 0 [.int k, .int f] (w) (some (.int (zHd k f))) (w) := by
  refine zFG.start RX0 cX0_holds 3 (some .int) rfl rfl (by decide +kernel) (Nat.le_of_ble_eq_true rfl) ?_
  intro p e s m ar below meth c ls A Q hx hb hr hml hown hts hlocks hK hE hA hQ hl hw
  have hl : lv_has ls 3 [(0, .int k), (1, .int f)] := hl
  have hw : zHw x A s.heap (w) s.heap [] := hw
  refine lv_iload_n hx hb dX0_holds_0 rfl (lv_at hl 1 rfl) ?_
  refine lv_iconst (v := 2) hx hb dX0_holds_1 (by decide) ?_
  refine lv_icmp_ne (tgt := 10) hx hb dX0_holds_2 (by decide) (fun c2 => ?_) (fun c2 => ?_)
  · refine lv_iconst (v := 3) hx hb dX0_holds_10 (by decide) ?_
    refine lv_istore_n (lv' := [(2, .int 3), (0, .int k), (1, .int f)]) hx hb dX0_holds_11 rfl hl (by decide) rfl (fun ls hl => ?_)
    refine lv_iload_n hx hb dX0_holds_12 rfl (lv_at hl 1 rfl) ?_
    rcases Decidable.em (k = 1) with k1 | k1
    · refine W.eq (g2 := F0 m 13 ls (.int 1 :: [])) (by rw [k1]) ?_
      refine lv_tableIn (off := 35) (tgt := 48) hx hb dX0_holds_13 (by decide) (by decide) (by decide) (by decide) ?_
      refine lv_iload_n hx hb dX0_holds_48 rfl (lv_at hl 0 rfl) ?_
      refine lv_iconst (v := 1) hx hb dX0_holds_49 (by decide) ?_
      refine lv_isub hx hb dX0_holds_50 ?_
      exact zFG.iret hx hb hr hlocks hQ hw rfl dX0_holds_51 ⟨by simp [zHd, zHp, c2, k1], rfl⟩
    rcases Decidable.em (k = 2) with k2 | k2
    · refine W.eq (g2 := F0 m 13 ls (.int 2 :: [])) (by rw [k2]) ?_
      refine lv_tableIn (off := 39) (tgt := 52) hx hb dX0_holds_13 (by decide) (by decide) (by decide) (by decide) ?_
      refine lv_iload_n hx hb dX0_holds_52 rfl (lv_at hl 0 rfl) ?_
      refine lv_iconst (v := 5) hx hb dX0_holds_53 (by decide) ?_
      refine lv_iadd hx hb dX0_holds_54 ?_
      exact zFG.iret hx hb hr hlocks hQ hw rfl dX0_holds_55 ⟨by simp [zHd, zHp, c2, k1, k2], rfl⟩
    rcases Decidable.em (k = 3) with k3 | k3
    · refine W.eq (g2 := F0 m 13 ls (.int 3 :: [])) (by rw [k3]) ?_
      refine lv_tableIn (off := 43) (tgt := 56) hx hb dX0_holds_13 (by decide) (by decide) (by decide) (by decide) ?_
      refine lv_iload_n hx hb dX0_holds_56 rfl (lv_at hl 0 rfl) ?_
      refine lv_iconst (v := 2) hx hb dX0_holds_57 (by decide) ?_
      refine lv_idiv hx hb dX0_holds_58 (by decide) ?_
      exact zFG.iret hx hb hr hlocks hQ hw rfl dX0_holds_59 ⟨by simp [zHd, zHp, c2, k1, k2, k3], rfl⟩
    rcases Decidable.em (k = 4) with k4 | k4
    · refine W.eq (g2 := F0 m 13 ls (.int 4 :: [])) (by rw [k4]) ?_
      refine lv_tableIn (off := 35) (tgt := 48) hx hb dX0_holds_13 (by decide) (by decide) (by decide) (by decide) ?_
      refine lv_iload_n hx hb dX0_holds_48 rfl (lv_at hl 0 rfl) ?_
      refine lv_iconst (v := 1) hx hb dX0_holds_49 (by decide) ?_
      refine lv_isub hx hb dX0_holds_50 ?_
      exact zFG.iret hx hb hr hlocks hQ hw rfl dX0_holds_51 ⟨by simp [zHd, zHp, c2, k1, k2, k3, k4], rfl⟩
    rcases Decidable.em (k = 5) with k5 | k5
    · refine W.eq (g2 := F0 m 13 ls (.int 5 :: [])) (by rw [k5]) ?_
      refine lv_tableIn (off := 47) (tgt := 60) hx hb dX0_holds_13 (by decide) (by decide) (by decide) (by decide) ?_
      refine lv_iload_n hx hb dX0_holds_60 rfl (lv_at hl 0 rfl) ?_
      refine lv_iconst (v := 5) hx hb dX0_holds_61 (by decide) ?_
      refine lv_iadd hx hb dX0_holds_62 ?_
      refine lv_iconst (v := 2) hx hb dX0_holds_63 (by decide) ?_
      refine lv_imul hx hb dX0_holds_64 ?_
      exact zFG.iret hx hb hr hlocks hQ hw rfl dX0_holds_65 ⟨by simp [zHd, zHp, c2, k1, k2, k3, k4, k5], rfl⟩
    refine lv_tableOut (tgt := 66) hx hb dX0_holds_13 (zoutp5 k1 k2 k3 k4 k5) (by decide) ?_
    refine lv_iload_n hx hb dX0_holds_66 rfl (lv_at hl 0 rfl) ?_
    exact zFG.iret hx hb hr hlocks hQ hw rfl dX0_holds_67 ⟨by simp [zHd, zHp, c2, k1, k2, k3, k4, k5], rfl⟩
  · refine lv_bipush (v := 40) hx hb dX0_holds_5 (by decide) ?_
    refine lv_goto (tgt := 11) hx hb dX0_holds_7 (by decide) ?_
    refine lv_istore_n (lv' := [(2, .int 40), (0, .int k), (1, .int f)]) hx hb dX0_holds_11 rfl hl (by decide) rfl (fun ls hl => ?_)
    refine lv_iload_n hx hb dX0_holds_12 rfl (lv_at hl 1 rfl) ?_
    rcases Decidable.em (k = 1) with k1 | k1
    · refine W.eq (g2 := F0 m 13 ls (.int 1 :: [])) (by rw [k1]) ?_
      refine lv_tableIn (off := 35) (tgt := 48) hx hb dX0_holds_13 (by decide) (by decide) (by decide) (by decide) ?_
      refine lv_iload_n hx hb dX0_holds_48 rfl (lv_at hl 0 rfl) ?_
      refine lv_iconst (v := 1) hx hb dX0_holds_49 (by decide) ?_
      refine lv_isub hx hb dX0_holds_50 ?_
      exact zFG.iret hx hb hr hlocks hQ hw rfl dX0_holds_51 ⟨by simp [zHd, zHp, c2, k1], rfl⟩
    rcases Decidable.em (k = 2) with k2 | k2
    · refine W.eq (g2 := F0 m 13 ls (.int 2 :: [])) (by rw [k2]) ?_
      refine lv_tableIn (off := 39) (tgt := 52) hx hb dX0_holds_13 (by decide) (by decide) (by decide) (by decide) ?_
      refine lv_iload_n hx hb dX0_holds_52 rfl (lv_at hl 0 rfl) ?_
      refine lv_iconst (v := 5) hx hb dX0_holds_53 (by decide) ?_
      refine lv_iadd hx hb dX0_holds_54 ?_
      exact zFG.iret hx hb hr hlocks hQ hw rfl dX0_holds_55 ⟨by simp [zHd, zHp, c2, k1, k2], rfl⟩
    rcases Decidable.em (k = 3) with k3 | k3
    · refine W.eq (g2 := F0 m 13 ls (.int 3 :: [])) (by rw [k3]) ?_
      refine lv_tableIn (off := 43) (tgt := 56) hx hb dX0_holds_13 (by decide) (by decide) (by decide) (by decide) ?_
      refine lv_iload_n hx hb dX0_holds_56 rfl (lv_at hl 0 rfl) ?_
      refine lv_iconst (v := 2) hx hb dX0_holds_57 (by decide) ?_
      refine lv_idiv hx hb dX0_holds_58 (by decide) ?_
      exact zFG.iret hx hb hr hlocks hQ hw rfl dX0_holds_59 ⟨by simp [zHd, zHp, c2, k1, k2, k3], rfl⟩
    rcases Decidable.em (k = 4) with k4 | k4
    · refine W.eq (g2 := F0 m 13 ls (.int 4 :: [])) (by rw [k4]) ?_
      refine lv_tableIn (off := 35) (tgt := 48) hx hb dX0_holds_13 (by decide) (by decide) (by decide) (by decide) ?_
      refine lv_iload_n hx hb dX0_holds_48 rfl (lv_at hl 0 rfl) ?_
      refine lv_iconst (v := 1) hx hb dX0_holds_49 (by decide) ?_
      refine lv_isub hx hb dX0_holds_50 ?_
      exact zFG.iret hx hb hr hlocks hQ hw rfl dX0_holds_51 ⟨by simp [zHd, zHp, c2, k1, k2, k3, k4], rfl⟩
    rcases Decidable.em (k = 5) with k5 | k5
    · refine W.eq (g2 := F0 m 13 ls (.int 5 :: [])) (by rw [k5]) ?_
      refine lv_tableIn (off := 47) (tgt := 60) hx hb dX0_holds_13 (by decide) (by decide) (by decide) (by decide) ?_
      refine lv_iload_n hx hb dX0_holds_60 rfl (lv_at hl 0 rfl) ?_
      refine lv_iconst (v := 5) hx hb dX0_holds_61 (by decide) ?_
      refine lv_iadd hx hb dX0_holds_62 ?_
      refine lv_iconst (v := 2) hx hb dX0_holds_63 (by decide) ?_
      refine lv_imul hx hb dX0_holds_64 ?_
      exact zFG.iret hx hb hr hlocks hQ hw rfl dX0_holds_65 ⟨by simp [zHd, zHp, c2, k1, k2, k3, k4, k5], rfl⟩
    refine lv_tableOut (tgt := 66) hx hb dX0_holds_13 (zoutp5 k1 k2 k3 k4 k5) (by decide) ?_
    refine lv_iload_n hx hb dX0_holds_66 rfl (lv_at hl 0 rfl) ?_
    exact zFG.iret hx hb hr hlocks hQ hw rfl dX0_holds_67 ⟨by simp [zHd, zHp, c2, k1, k2, k3, k4, k5], rfl⟩

set_option maxHeartbeats 4000000 in
set_option maxRecDepth 100000 in
theorem c_X0_coldPrice (x : zX) (w : va_W) (k z : Int32) : zFF x mX0_coldPrice 0 [.int k, .int z] (w) (some (.int (zCp k z))) (w) := by
  refine zFG.start RX0 cX0_coldPrice 3 (some .int) rfl rfl (by decide +kernel) (Nat.le_of_ble_eq_true rfl) ?_
  intro p e s m ar below meth c ls A Q hx hb hr hml hown hts hlocks hK hE hA hQ hl hw
  have hl : lv_has ls 3 [(0, .int k), (1, .int z)] := hl
  have hw : zHw x A s.heap (w) s.heap [] := hw
  refine lv_iconst (v := 5) hx hb dX0_coldPrice_0 (by decide) ?_
  refine lv_iload_n hx hb dX0_coldPrice_1 rfl (lv_at hl 1 rfl) ?_
  refine lv_bipush (v := 10) hx hb dX0_coldPrice_2 (by decide) ?_
  refine lv_idiv hx hb dX0_coldPrice_4 (by decide) ?_
  refine lv_iadd hx hb dX0_coldPrice_5 ?_
  refine lv_istore_n (lv' := [(2, .int (5 + (z / 10))), (0, .int k), (1, .int z)]) hx hb dX0_coldPrice_6 rfl hl (by decide) rfl (fun ls hl => ?_)
  refine lv_iload_n hx hb dX0_coldPrice_7 rfl (lv_at hl 1 rfl) ?_
  rcases Decidable.em (k = 1) with k1 | k1
  · refine W.eq (g2 := F0 m 8 ls (.int 1 :: [])) (by rw [k1]) ?_
    refine lv_tableIn (off := 36) (tgt := 44) hx hb dX0_coldPrice_8 (by decide) (by decide) (by decide) (by decide) ?_
    refine lv_iload_n hx hb dX0_coldPrice_44 rfl (lv_at hl 0 rfl) ?_
    refine lv_iconst (v := 3) hx hb dX0_coldPrice_45 (by decide) ?_
    refine lv_iadd hx hb dX0_coldPrice_46 ?_
    exact zFG.iret hx hb hr hlocks hQ hw rfl dX0_coldPrice_47 ⟨by simp [zCp, k1], rfl⟩
  rcases Decidable.em (k = 2) with k2 | k2
  · refine W.eq (g2 := F0 m 8 ls (.int 2 :: [])) (by rw [k2]) ?_
    refine lv_tableIn (off := 40) (tgt := 48) hx hb dX0_coldPrice_8 (by decide) (by decide) (by decide) (by decide) ?_
    refine lv_iconst (v := 2) hx hb dX0_coldPrice_48 (by decide) ?_
    exact zFG.iret hx hb hr hlocks hQ hw rfl dX0_coldPrice_49 ⟨by simp [zCp, k1, k2], rfl⟩
  rcases Decidable.em (k = 4) with k4 | k4
  · refine W.eq (g2 := F0 m 8 ls (.int 4 :: [])) (by rw [k4]) ?_
    refine lv_tableIn (off := 42) (tgt := 50) hx hb dX0_coldPrice_8 (by decide) (by decide) (by decide) (by decide) ?_
    refine lv_iload_n hx hb dX0_coldPrice_50 rfl (lv_at hl 0 rfl) ?_
    refine lv_iconst (v := 1) hx hb dX0_coldPrice_51 (by decide) ?_
    refine lv_iadd hx hb dX0_coldPrice_52 ?_
    exact zFG.iret hx hb hr hlocks hQ hw rfl dX0_coldPrice_53 ⟨by simp [zCp, k1, k2, k4], rfl⟩
  rcases Decidable.em (k = 5) with k5 | k5
  · refine W.eq (g2 := F0 m 8 ls (.int 5 :: [])) (by rw [k5]) ?_
    refine lv_tableIn (off := 46) (tgt := 54) hx hb dX0_coldPrice_8 (by decide) (by decide) (by decide) (by decide) ?_
    refine lv_iconst (v := 3) hx hb dX0_coldPrice_54 (by decide) ?_
    exact zFG.iret hx hb hr hlocks hQ hw rfl dX0_coldPrice_55 ⟨by simp [zCp, k1, k2, k4, k5], rfl⟩
  rcases Decidable.em (k = 3) with k3 | k3
  · refine W.eq (g2 := F0 m 8 ls (.int 3 :: [])) (by rw [k3]) ?_
    refine lv_tableIn (off := 48) (tgt := 56) hx hb dX0_coldPrice_8 (by decide) (by decide) (by decide) (by decide) ?_
    refine lv_iload_n hx hb dX0_coldPrice_56 rfl (lv_at hl 0 rfl) ?_
    exact zFG.iret hx hb hr hlocks hQ hw rfl dX0_coldPrice_57 ⟨by simp [zCp, k1, k2, k4, k5, k3], rfl⟩
  refine lv_tableOut (tgt := 56) hx hb dX0_coldPrice_8 (zoutp5 k1 k2 k3 k4 k5) (by decide) ?_
  refine lv_iload_n hx hb dX0_coldPrice_56 rfl (lv_at hl 0 rfl) ?_
  exact zFG.iret hx hb hr hlocks hQ hw rfl dX0_coldPrice_57 ⟨by simp [zCp, k1, k2, k4, k5, k3], rfl⟩

set_option maxHeartbeats 4000000 in
set_option maxRecDepth 100000 in
theorem c_X0_isUnder (x : zX) (w : va_W) (k a : Int32) : zFF x mX0_isUnder 0 [.int k, .int a] (w) (some (.int (zb (zUn k a)))) (w) := by
  refine zFG.start RX0 cX0_isUnder 2 (some .boolean) rfl rfl (by decide +kernel) (Nat.le_of_ble_eq_true rfl) ?_
  intro p e s m ar below meth c ls A Q hx hb hr hml hown hts hlocks hK hE hA hQ hl hw
  have hl : lv_has ls 2 [(0, .int k), (1, .int a)] := hl
  have hw : zHw x A s.heap (w) s.heap [] := hw
  refine lv_iload_n hx hb dX0_isUnder_0 rfl (lv_at hl 1 rfl) ?_
  rcases Decidable.em (a = 0) with k0 | k0
  · refine W.eq (g2 := F0 m 1 ls (.int 0 :: [])) (by rw [k0]) ?_
    refine lv_tableIn (off := 27) (tgt := 28) hx hb dX0_isUnder_1 (by decide) (by decide) (by decide) (by decide) ?_
    refine lv_iconst (v := 1) hx hb dX0_isUnder_28 (by decide) ?_
    exact zFG.zret hx hb hr hlocks hQ hw rfl dX0_isUnder_29 (by decide) ⟨by simp [zb, zUn, k0], rfl⟩
  rcases Decidable.em (a = 1) with k1 | k1
  · refine W.eq (g2 := F0 m 1 ls (.int 1 :: [])) (by rw [k1]) ?_
    refine lv_tableIn (off := 29) (tgt := 30) hx hb dX0_isUnder_1 (by decide) (by decide) (by decide) (by decide) ?_
    refine lv_iload_n hx hb dX0_isUnder_30 rfl (lv_at hl 0 rfl) ?_
    refine lv_iconst (v := 1) hx hb dX0_isUnder_31 (by decide) ?_
    refine lv_icmp_eq (tgt := 40) hx hb dX0_isUnder_32 (by decide) (fun c32 => ?_) (fun c32 => ?_)
    · refine lv_iconst (v := 1) hx hb dX0_isUnder_40 (by decide) ?_
      refine lv_goto (tgt := 45) hx hb dX0_isUnder_41 (by decide) ?_
      exact zFG.zret hx hb hr hlocks hQ hw rfl dX0_isUnder_45 (by decide) ⟨by simp [zb, zUn, k0, k1, c32], rfl⟩
    · refine lv_iload_n hx hb dX0_isUnder_35 rfl (lv_at hl 0 rfl) ?_
      refine lv_iconst (v := 4) hx hb dX0_isUnder_36 (by decide) ?_
      refine lv_icmp_ne (tgt := 44) hx hb dX0_isUnder_37 (by decide) (fun c37 => ?_) (fun c37 => ?_)
      · refine lv_iconst (v := 0) hx hb dX0_isUnder_44 (by decide) ?_
        exact zFG.zret hx hb hr hlocks hQ hw rfl dX0_isUnder_45 (by decide) ⟨by simp [zb, zUn, k0, k1, c32, c37], rfl⟩
      · refine lv_iconst (v := 1) hx hb dX0_isUnder_40 (by decide) ?_
        refine lv_goto (tgt := 45) hx hb dX0_isUnder_41 (by decide) ?_
        exact zFG.zret hx hb hr hlocks hQ hw rfl dX0_isUnder_45 (by decide) ⟨by simp [zb, zUn, k0, k1, c32, c37], rfl⟩
  rcases Decidable.em (a = 2) with k2 | k2
  · refine W.eq (g2 := F0 m 1 ls (.int 2 :: [])) (by rw [k2]) ?_
    refine lv_tableIn (off := 45) (tgt := 46) hx hb dX0_isUnder_1 (by decide) (by decide) (by decide) (by decide) ?_
    refine lv_iload_n hx hb dX0_isUnder_46 rfl (lv_at hl 0 rfl) ?_
    refine lv_iconst (v := 2) hx hb dX0_isUnder_47 (by decide) ?_
    refine lv_icmp_eq (tgt := 56) hx hb dX0_isUnder_48 (by decide) (fun c48 => ?_) (fun c48 => ?_)
    · refine lv_iconst (v := 1) hx hb dX0_isUnder_56 (by decide) ?_
      refine lv_goto (tgt := 61) hx hb dX0_isUnder_57 (by decide) ?_
      exact zFG.zret hx hb hr hlocks hQ hw rfl dX0_isUnder_61 (by decide) ⟨by simp [zb, zUn, k0, k1, k2, c48], rfl⟩
    · refine lv_iload_n hx hb dX0_isUnder_51 rfl (lv_at hl 0 rfl) ?_
      refine lv_iconst (v := 5) hx hb dX0_isUnder_52 (by decide) ?_
      refine lv_icmp_ne (tgt := 60) hx hb dX0_isUnder_53 (by decide) (fun c53 => ?_) (fun c53 => ?_)
      · refine lv_iconst (v := 0) hx hb dX0_isUnder_60 (by decide) ?_
        exact zFG.zret hx hb hr hlocks hQ hw rfl dX0_isUnder_61 (by decide) ⟨by simp [zb, zUn, k0, k1, k2, c48, c53], rfl⟩
      · refine lv_iconst (v := 1) hx hb dX0_isUnder_56 (by decide) ?_
        refine lv_goto (tgt := 61) hx hb dX0_isUnder_57 (by decide) ?_
        exact zFG.zret hx hb hr hlocks hQ hw rfl dX0_isUnder_61 (by decide) ⟨by simp [zb, zUn, k0, k1, k2, c48, c53], rfl⟩
  refine lv_tableOut (tgt := 62) hx hb dX0_isUnder_1 (zout3 k0 k1 k2) (by decide) ?_
  refine lv_iload_n hx hb dX0_isUnder_62 rfl (lv_at hl 0 rfl) ?_
  refine lv_iload_n hx hb dX0_isUnder_63 rfl (lv_at hl 1 rfl) ?_
  refine lv_icmp_ne (tgt := 71) hx hb dX0_isUnder_64 (by decide) (fun c64 => ?_) (fun c64 => ?_)
  · refine lv_iconst (v := 0) hx hb dX0_isUnder_71 (by decide) ?_
    exact zFG.zret hx hb hr hlocks hQ hw rfl dX0_isUnder_72 (by decide) ⟨by simp [zb, zUn, k0, k1, k2, c64], rfl⟩
  · refine lv_iconst (v := 1) hx hb dX0_isUnder_67 (by decide) ?_
    refine lv_goto (tgt := 72) hx hb dX0_isUnder_68 (by decide) ?_
    exact zFG.zret hx hb hr hlocks hQ hw rfl dX0_isUnder_72 (by decide) ⟨by simp [zb, zUn, k0, k1, k2, c64], rfl⟩

set_option maxHeartbeats 4000000 in
set_option maxRecDepth 100000 in
theorem c_X5_within (x : zX) (w : va_W) (v lo hi : Int32) : zFF x mX5_within 0 [.int v, .int lo, .int hi] (w) (some (.int (zb (lo ≤ v ∧ v ≤ hi)))) (w) := by
  refine zFG.start RX5 cX5_within 3 (some .boolean) rfl rfl (by decide +kernel) (Nat.le_of_ble_eq_true rfl) ?_
  intro p e s m ar below meth c ls A Q hx hb hr hml hown hts hlocks hK hE hA hQ hl hw
  have hl : lv_has ls 3 [(0, .int v), (1, .int lo), (2, .int hi)] := hl
  have hw : zHw x A s.heap (w) s.heap [] := hw
  refine lv_iload_n hx hb dX5_within_0 rfl (lv_at hl 0 rfl) ?_
  refine lv_iload_n hx hb dX5_within_1 rfl (lv_at hl 1 rfl) ?_
  refine lv_icmp_lt (tgt := 14) hx hb dX5_within_2 (by decide) (fun c2 => ?_) (fun c2 => ?_)
  · refine lv_iconst (v := 0) hx hb dX5_within_14 (by decide) ?_
    exact zFG.zret hx hb hr hlocks hQ hw rfl dX5_within_15 (by decide) ⟨zsi (by first | (simp [zb, Int32.not_lt, Int32.not_le, c2]; done) | (symm; refine zb_f (fun h => ?_); simp only [Int32.lt_iff_toInt_lt, Int32.le_iff_toInt_le] at h c2; omega)), rfl⟩
  · refine lv_iload_n hx hb dX5_within_5 rfl (lv_at hl 0 rfl) ?_
    refine lv_iload_n hx hb dX5_within_6 rfl (lv_at hl 2 rfl) ?_
    refine lv_icmp_gt (tgt := 14) hx hb dX5_within_7 (by decide) (fun c7 => ?_) (fun c7 => ?_)
    · refine lv_iconst (v := 0) hx hb dX5_within_14 (by decide) ?_
      exact zFG.zret hx hb hr hlocks hQ hw rfl dX5_within_15 (by decide) ⟨zsi (by first | (simp [zb, Int32.not_lt, Int32.not_le, c2, c7]; done) | (symm; refine zb_f (fun h => ?_); simp only [Int32.lt_iff_toInt_lt, Int32.le_iff_toInt_le] at h c2 c7; omega)), rfl⟩
    · refine lv_iconst (v := 1) hx hb dX5_within_10 (by decide) ?_
      refine lv_goto (tgt := 15) hx hb dX5_within_11 (by decide) ?_
      exact zFG.zret hx hb hr hlocks hQ hw rfl dX5_within_15 (by decide) ⟨zsi (by first | (simp [zb, Int32.not_lt, Int32.not_le, c2, c7]; done) | (symm; refine zb_f (fun h => ?_); simp only [Int32.lt_iff_toInt_lt, Int32.le_iff_toInt_le] at h c2 c7; omega)), rfl⟩

set_option maxHeartbeats 4000000 in
set_option maxRecDepth 100000 in
theorem c_X5_isStreet (x : zX) (w : va_W) (v : Int32) : zFF x mX5_isStreet 0 [.int v] (w) (some (.int (zb (0 ≤ v ∧ v < 6)))) (w) := by
  refine zFG.start RX5 cX5_isStreet 1 (some .boolean) rfl rfl (by decide +kernel) (Nat.le_of_ble_eq_true rfl) ?_
  intro p e s m ar below meth c ls A Q hx hb hr hml hown hts hlocks hK hE hA hQ hl hw
  have hl : lv_has ls 1 [(0, .int v)] := hl
  have hw : zHw x A s.heap (w) s.heap [] := hw
  refine lv_iload_n hx hb dX5_isStreet_0 rfl (lv_at hl 0 rfl) ?_
  refine lv_if_lt (tgt := 14) hx hb dX5_isStreet_1 (by decide) (fun c1 => ?_) (fun c1 => ?_)
  · refine lv_iconst (v := 0) hx hb dX5_isStreet_14 (by decide) ?_
    exact zFG.zret hx hb hr hlocks hQ hw rfl dX5_isStreet_15 (by decide) ⟨zsi (by first | (simp [zb, c1]; done) | (symm; refine zb_f (fun h => ?_); simp only [Int32.lt_iff_toInt_lt, Int32.le_iff_toInt_le] at h c1; omega)), rfl⟩
  · refine lv_iload_n hx hb dX5_isStreet_4 rfl (lv_at hl 0 rfl) ?_
    refine lv_bipush (v := 6) hx hb dX5_isStreet_5 (by decide) ?_
    refine lv_icmp_ge (tgt := 14) hx hb dX5_isStreet_7 (by decide) (fun c7 => ?_) (fun c7 => ?_)
    · refine lv_iconst (v := 0) hx hb dX5_isStreet_14 (by decide) ?_
      exact zFG.zret hx hb hr hlocks hQ hw rfl dX5_isStreet_15 (by decide) ⟨zsi (by first | (simp [zb, c1, c7]; done) | (symm; refine zb_f (fun h => ?_); simp only [Int32.lt_iff_toInt_lt, Int32.le_iff_toInt_le] at h c1 c7; omega)), rfl⟩
    · refine lv_iconst (v := 1) hx hb dX5_isStreet_10 (by decide) ?_
      refine lv_goto (tgt := 15) hx hb dX5_isStreet_11 (by decide) ?_
      exact zFG.zret hx hb hr hlocks hQ hw rfl dX5_isStreet_15 (by decide) ⟨zsi (by first | (simp [zb, c1, c7]; done) | (symm; refine zb_f (fun h => ?_); simp only [Int32.lt_iff_toInt_lt, Int32.le_iff_toInt_le] at h c1 c7; omega)), rfl⟩

set_option maxHeartbeats 4000000 in
set_option maxRecDepth 100000 in
theorem c_X5_isKind (x : zX) (w : va_W) (v : Int32) : zFF x mX5_isKind 0 [.int v] (w) (some (.int (zb (0 ≤ v ∧ v < 6)))) (w) := by
  refine zFG.start RX5 cX5_isKind 1 (some .boolean) rfl rfl (by decide +kernel) (Nat.le_of_ble_eq_true rfl) ?_
  intro p e s m ar below meth c ls A Q hx hb hr hml hown hts hlocks hK hE hA hQ hl hw
  have hl : lv_has ls 1 [(0, .int v)] := hl
  have hw : zHw x A s.heap (w) s.heap [] := hw
  refine lv_iload_n hx hb dX5_isKind_0 rfl (lv_at hl 0 rfl) ?_
  refine lv_if_lt (tgt := 14) hx hb dX5_isKind_1 (by decide) (fun c1 => ?_) (fun c1 => ?_)
  · refine lv_iconst (v := 0) hx hb dX5_isKind_14 (by decide) ?_
    exact zFG.zret hx hb hr hlocks hQ hw rfl dX5_isKind_15 (by decide) ⟨zsi (by first | (simp [zb, c1]; done) | (symm; refine zb_f (fun h => ?_); simp only [Int32.lt_iff_toInt_lt, Int32.le_iff_toInt_le] at h c1; omega)), rfl⟩
  · refine lv_iload_n hx hb dX5_isKind_4 rfl (lv_at hl 0 rfl) ?_
    refine lv_bipush (v := 6) hx hb dX5_isKind_5 (by decide) ?_
    refine lv_icmp_ge (tgt := 14) hx hb dX5_isKind_7 (by decide) (fun c7 => ?_) (fun c7 => ?_)
    · refine lv_iconst (v := 0) hx hb dX5_isKind_14 (by decide) ?_
      exact zFG.zret hx hb hr hlocks hQ hw rfl dX5_isKind_15 (by decide) ⟨zsi (by first | (simp [zb, c1, c7]; done) | (symm; refine zb_f (fun h => ?_); simp only [Int32.lt_iff_toInt_lt, Int32.le_iff_toInt_le] at h c1 c7; omega)), rfl⟩
    · refine lv_iconst (v := 1) hx hb dX5_isKind_10 (by decide) ?_
      refine lv_goto (tgt := 15) hx hb dX5_isKind_11 (by decide) ?_
      exact zFG.zret hx hb hr hlocks hQ hw rfl dX5_isKind_15 (by decide) ⟨zsi (by first | (simp [zb, c1, c7]; done) | (symm; refine zb_f (fun h => ?_); simp only [Int32.lt_iff_toInt_lt, Int32.le_iff_toInt_le] at h c1 c7; omega)), rfl⟩
