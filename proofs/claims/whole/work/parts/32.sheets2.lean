set_option maxHeartbeats 4000000 in
set_option maxRecDepth 100000 in
theorem c_X5_copy (x : zX) (b : Nat → Nat) (t : Nat → Nat → Nat) (S : zT) (l0 : Int32) (T : zT) (l1 : Int32) (K : zT) (l2 ik : Int32) (fd tb tq bo so : Nat → Int32) (nn : Nat → Nat → Int64) (y fr z to vn : Int32) (hS : zSI bo so) : zFG x mX5_copy 1 [.ref (b 0), .int y, .int fr, .int z, .int to, .int vn] (zHW x b t S l0 T l1 K l2 ik fd tb tq bo so nn) (fun v' u' => v' = some (.int (zm_copy bo so nn fd y fr z to vn).1) ∧ u' = zHW x b t S l0 T l1 K l2 ik (zm_copy bo so nn fd y fr z to vn).2.2 tb tq bo so (zm_copy bo so nn fd y fr z to vn).2.1) := by
  refine zFG.start RX5 cX5_copy 8 (some .int) rfl rfl (by decide +kernel) (Nat.le_of_ble_eq_true rfl) ?_
  intro p e s m ar below meth c ls A Q hx hb hr hml hown hts hlocks hK hE hA hQ hl hw
  have hl : lv_has ls 8 [(0, .ref (b 0)), (1, .int y), (2, .int fr), (3, .int z), (4, .int to), (5, .int vn)] := hl
  have hw : zHw x A s.heap (zHW x b t S l0 T l1 K l2 ik fd tb tq bo so nn) s.heap [] := hw
  rcases zcase4 y with rfl | rfl | rfl | rfl | hno
  · refine lv_aload_n hx hb dX5_copy_0 rfl (lv_at hl 0 rfl) ?_
    refine lv_iload_n hx hb dX5_copy_1 rfl (lv_at hl 1 rfl) ?_
    refine zcVwa hx hb hml hown hts hl.1 hK hE hA lkX5_219 (c_X5_sheetAt_0 x b t S l0 T l1 K l2 ik fd tb tq bo so nn) ⟨Nat.le_of_ble_eq_true rfl, Nat.le_of_ble_eq_true rfl⟩ ⟨Nat.zero_le _, Nat.zero_le _⟩ hw 0 3 rfl rfl rfl rfl (Nat.le_of_ble_eq_true rfl) dX5_copy_2 (fun H locs hw => ?_)
    have hw : zHw x A s.heap (zHW x b t S l0 T l1 K l2 ik fd tb tq bo so nn) H locs := hw
    refine lv_astore (lv' := [(6, .ref (b 5)), (0, .ref (b 0)), (1, .int 0), (2, .int fr), (3, .int z), (4, .int to), (5, .int vn)]) hx hb dX5_copy_5 hl (by decide) rfl (fun ls hl => ?_)
    rcases zcase4 z with rfl | rfl | rfl | rfl | hnz
    · refine lv_aload_n hx hb dX5_copy_7 rfl (lv_at hl 1 rfl) ?_
      refine lv_iload_n hx hb dX5_copy_8 rfl (lv_at hl 4 rfl) ?_
      refine zcVwa hx hb hml hown hts hl.1 hK hE hA lkX5_219 (c_X5_sheetAt_0 x b t S l0 T l1 K l2 ik fd tb tq bo so nn) ⟨Nat.le_of_ble_eq_true rfl, Nat.le_of_ble_eq_true rfl⟩ ⟨Nat.zero_le _, Nat.zero_le _⟩ hw 0 3 rfl rfl rfl rfl (Nat.le_of_ble_eq_true rfl) dX5_copy_9 (fun H locs hw => ?_)
      have hw : zHw x A s.heap (zHW x b t S l0 T l1 K l2 ik fd tb tq bo so nn) H locs := hw
      refine lv_astore (lv' := [(7, .ref (b 5)), (6, .ref (b 5)), (0, .ref (b 0)), (1, .int 0), (2, .int fr), (3, .int 0), (4, .int to), (5, .int vn)]) hx hb dX5_copy_12 hl (by decide) rfl (fun ls hl => ?_)
      refine lv_aload hx hb dX5_copy_14 (lv_at hl 1 rfl) ?_
      refine lv_ifnull hx hb dX5_copy_16 ?_
      refine lv_aload hx hb dX5_copy_19 (lv_at hl 0 rfl) ?_
      refine lv_ifnonnull (tgt := 31) hx hb dX5_copy_21 (by decide) ?_
      refine lv_aload hx hb dX5_copy_31 (lv_at hl 1 rfl) ?_
      refine zcVmi (r := zb (bo 0 = 0)) (C1 := (zOW x b t ik fd ++ (zTW x (t 0) S l0 ++ (zTW x (t 1) T l1 ++ (zTW x (t 2) K l2 ++ zPW x b tb tq))))) (C2 := (zSH x (b 6) (b 10) (bo 1) (so 1) (nn 1) ++ (zSH x (b 7) (b 11) (bo 2) (so 2) (nn 2) ++ zSH x (b 8) (b 12) (bo 3) (so 3) (nn 3)))) hx hb hml hown hts hl.1 hK hE hA lkX5_228 (c_X1_isMissing x (b 5) (b 9) (bo 0) (so 0) (nn 0) ) ⟨Nat.le_of_ble_eq_true rfl, Nat.le_of_ble_eq_true rfl⟩ ⟨Nat.zero_le _, Nat.zero_le _⟩ hw 0 0 rfl rfl rfl rfl (Nat.le_of_ble_eq_true rfl) dX5_copy_33 (fun H locs hw => ?_)
      have hw : zHw x A s.heap (zHW x b t S l0 T l1 K l2 ik fd tb tq bo so nn) H locs := hw
      refine lv_if_ne (tgt := 47) hx hb dX5_copy_36 (by decide) (fun c36 => ?_) (fun c36 => ?_)
      · have c36 := zb_n0.mp c36
        refine lv_aload_n hx hb dX5_copy_47 rfl (lv_at hl 2 rfl) ?_
        refine lv_ldc (v := (-1000000006)) hx hb hown (hts _ ckX5_231) dX5_copy_48 ?_
        refine zcVwi (r := (-1000000006)) hx hb hml hown hts hl.1 hK hE hA lkX5_52 (c_X5_found x b t S l0 T l1 K l2 ik fd tb tq bo so nn (-1000000006) 5 (by decide) (by decide)) ⟨Nat.le_of_ble_eq_true rfl, Nat.le_of_ble_eq_true rfl⟩ ⟨Nat.zero_le _, Nat.zero_le _⟩ hw 0 3 rfl rfl rfl rfl (Nat.le_of_ble_eq_true rfl) dX5_copy_50 (fun H locs hw => ?_)
        have hw : zHw x A s.heap (zHW x b t S l0 T l1 K l2 ik (upd fd 5 (fd 5 + 1)) tb tq bo so nn) H locs := hw
        exact zFG.iret hx hb hr hlocks hQ hw rfl dX5_copy_53 (by rw [show zm_copy bo so nn fd 0 fr 0 to vn = ((-1000000006), nn, zFd fd 5) from (by unfold zm_copy; rw [if_pos ⟨by decide, by decide⟩, show zc (0 : Int32) = 0 from rfl, if_pos (by first | exact Or.inr c44 | exact Or.inl c36)])]; exact ⟨rfl, rfl⟩)
      · have c36 := zb_0.mp c36
        refine lv_aload hx hb dX5_copy_39 (lv_at hl 0 rfl) ?_
        refine zcVmi (r := zb (bo 0 = 0)) (C1 := (zOW x b t ik fd ++ (zTW x (t 0) S l0 ++ (zTW x (t 1) T l1 ++ (zTW x (t 2) K l2 ++ zPW x b tb tq))))) (C2 := (zSH x (b 6) (b 10) (bo 1) (so 1) (nn 1) ++ (zSH x (b 7) (b 11) (bo 2) (so 2) (nn 2) ++ zSH x (b 8) (b 12) (bo 3) (so 3) (nn 3)))) hx hb hml hown hts hl.1 hK hE hA lkX5_228 (c_X1_isMissing x (b 5) (b 9) (bo 0) (so 0) (nn 0) ) ⟨Nat.le_of_ble_eq_true rfl, Nat.le_of_ble_eq_true rfl⟩ ⟨Nat.zero_le _, Nat.zero_le _⟩ hw 0 0 rfl rfl rfl rfl (Nat.le_of_ble_eq_true rfl) dX5_copy_41 (fun H locs hw => ?_)
        have hw : zHw x A s.heap (zHW x b t S l0 T l1 K l2 ik fd tb tq bo so nn) H locs := hw
        refine lv_if_eq (tgt := 54) hx hb dX5_copy_44 (by decide) (fun c44 => ?_) (fun c44 => absurd (zb_0.mpr c36) c44)
        refine lv_aload hx hb dX5_copy_54 (lv_at hl 1 rfl) ?_
        refine gfX5_239 hx hb hown hts hK hw 32 rfl rfl dX5_copy_56 ?_
        refine lv_aload hx hb dX5_copy_59 (lv_at hl 0 rfl) ?_
        refine gfX5_239 hx hb hown hts hK hw 32 rfl rfl dX5_copy_61 ?_
        refine lv_icmp_eq (tgt := 74) hx hb dX5_copy_64 (by decide) (fun c64 => ?_) (fun c64 => ?_)
        · obtain ⟨-, n1, hn1, hs1⟩ := hS 0 (by decide)
          obtain ⟨-, n2, hn2, hs2⟩ := hS 0 (by decide)
          refine lv_aload hx hb dX5_copy_74 (lv_at hl 1 rfl) ?_
          refine lv_iload_n hx hb dX5_copy_76 rfl (lv_at hl 4 rfl) ?_
          refine lv_iload hx hb dX5_copy_77 (lv_at hl 7 rfl) ?_
          refine zcVmi (r := zb (0 ≤ fr ∧ 0 ≤ vn ∧ vn ≤ so 0 ∧ fr ≤ so 0 - vn)) (C1 := (zOW x b t ik fd ++ (zTW x (t 0) S l0 ++ (zTW x (t 1) T l1 ++ (zTW x (t 2) K l2 ++ zPW x b tb tq))))) (C2 := (zSH x (b 6) (b 10) (bo 1) (so 1) (nn 1) ++ (zSH x (b 7) (b 11) (bo 2) (so 2) (nn 2) ++ zSH x (b 8) (b 12) (bo 3) (so 3) (nn 3)))) hx hb hml hown hts hl.1 hK hE hA lkX5_242 (c_X1_hasSpan x (b 5) (b 9) (bo 0) (so 0) (nn 0) fr vn) ⟨Nat.le_of_ble_eq_true rfl, Nat.le_of_ble_eq_true rfl⟩ ⟨Nat.zero_le _, Nat.zero_le _⟩ hw 0 0 rfl rfl rfl rfl (Nat.le_of_ble_eq_true rfl) dX5_copy_79 (fun H locs hw => ?_)
          have hw : zHw x A s.heap (zHW x b t S l0 T l1 K l2 ik fd tb tq bo so nn) H locs := hw
          refine lv_if_eq (tgt := 97) hx hb dX5_copy_82 (by decide) (fun c82 => ?_) (fun c82 => ?_)
          · have c82 := zb_0.mp c82
            refine lv_aload_n hx hb dX5_copy_97 rfl (lv_at hl 2 rfl) ?_
            refine lv_ldc (v := (-1000000001)) hx hb hown (hts _ ckX5_51) dX5_copy_98 ?_
            refine zcVwi (r := (-1000000001)) hx hb hml hown hts hl.1 hK hE hA lkX5_52 (c_X5_found x b t S l0 T l1 K l2 ik fd tb tq bo so nn (-1000000001) 0 (by decide) (by decide)) ⟨Nat.le_of_ble_eq_true rfl, Nat.le_of_ble_eq_true rfl⟩ ⟨Nat.zero_le _, Nat.zero_le _⟩ hw 0 3 rfl rfl rfl rfl (Nat.le_of_ble_eq_true rfl) dX5_copy_100 (fun H locs hw => ?_)
            have hw : zHw x A s.heap (zHW x b t S l0 T l1 K l2 ik (upd fd 0 (fd 0 + 1)) tb tq bo so nn) H locs := hw
            exact zFG.iret hx hb hr hlocks hQ hw rfl dX5_copy_103 (by rw [show zm_copy bo so nn fd 0 fr 0 to vn = ((-1000000001), nn, zFd fd 0) from (by unfold zm_copy; rw [if_pos ⟨by decide, by decide⟩, show zc (0 : Int32) = 0 from rfl, if_neg (fun h => h.elim c36 c36), if_pos c64, if_neg (fun h => by first | exact c94 ((zspan hn2 hs2).mpr ⟨h.2.1, h.2.2.1, h.2.2.2.2⟩) | exact c82 ((zspan hn1 hs1).mpr ⟨h.1, h.2.2.1, h.2.2.2.1⟩))])]; exact ⟨rfl, rfl⟩)
          · have c82 := zb_n0.mp c82
            refine lv_aload hx hb dX5_copy_85 (lv_at hl 0 rfl) ?_
            refine lv_iload hx hb dX5_copy_87 (lv_at hl 6 rfl) ?_
            refine lv_iload hx hb dX5_copy_89 (lv_at hl 7 rfl) ?_
            refine zcVmi (r := zb (0 ≤ to ∧ 0 ≤ vn ∧ vn ≤ so 0 ∧ to ≤ so 0 - vn)) (C1 := (zOW x b t ik fd ++ (zTW x (t 0) S l0 ++ (zTW x (t 1) T l1 ++ (zTW x (t 2) K l2 ++ zPW x b tb tq))))) (C2 := (zSH x (b 6) (b 10) (bo 1) (so 1) (nn 1) ++ (zSH x (b 7) (b 11) (bo 2) (so 2) (nn 2) ++ zSH x (b 8) (b 12) (bo 3) (so 3) (nn 3)))) hx hb hml hown hts hl.1 hK hE hA lkX5_242 (c_X1_hasSpan x (b 5) (b 9) (bo 0) (so 0) (nn 0) to vn) ⟨Nat.le_of_ble_eq_true rfl, Nat.le_of_ble_eq_true rfl⟩ ⟨Nat.zero_le _, Nat.zero_le _⟩ hw 0 0 rfl rfl rfl rfl (Nat.le_of_ble_eq_true rfl) dX5_copy_91 (fun H locs hw => ?_)
            have hw : zHw x A s.heap (zHW x b t S l0 T l1 K l2 ik fd tb tq bo so nn) H locs := hw
            refine lv_if_ne (tgt := 104) hx hb dX5_copy_94 (by decide) (fun c94 => ?_) (fun c94 => ?_)
            · have c94 := zb_n0.mp c94
              have c82h := (zspan hn1 hs1).mp c82
              have c94h := (zspan hn2 hs2).mp c94
              obtain ⟨i1, k1, rfl, rfl, hb1⟩ := zspan_nat hn1 hs1 c82
              obtain ⟨j1, k2, rfl, ek, hb2⟩ := zspan_nat hn2 hs2 c94
              have ek : k1 = k2 := (nI_eq (by omega) (by omega)).mp ek
              subst ek
              refine lv_aload hx hb dX5_copy_104 (lv_at hl 1 rfl) ?_
              refine gfX5_232 hx hb hown hts hK hw 32 rfl rfl dX5_copy_106 ?_
              refine lv_iload_n hx hb dX5_copy_109 rfl (lv_at hl 4 rfl) ?_
              refine lv_aload hx hb dX5_copy_110 (lv_at hl 0 rfl) ?_
              refine gfX5_232 hx hb hown hts hK hw 32 rfl rfl dX5_copy_112 ?_
              refine lv_iload hx hb dX5_copy_115 (lv_at hl 6 rfl) ?_
              refine lv_iload hx hb dX5_copy_117 (lv_at hl 7 rfl) ?_
              refine zcpyL hx hb (hml.trans hl.1.symm) hown hts acX5 hK hw 33 33 i1 j1 k1 rfl rfl (by omega) (by omega) ⟨Nat.le_of_ble_eq_true rfl, Nat.le_of_ble_eq_true rfl⟩ dX5_copy_119 (fun H locs hw => ?_)
              have hw : zHw x A s.heap (zHW x b t S l0 T l1 K l2 ik fd tb tq bo so (zVL nn 0 (zcp (nn 0) (nn 0) i1 j1 k1))) H locs := hw
              refine lv_iload hx hb dX5_copy_122 (lv_at hl 7 rfl) ?_
              exact zFG.iret hx hb hr hlocks hQ hw rfl dX5_copy_124 (by rw [show zm_copy bo so nn fd 0 (nI i1) 0 (nI j1) (nI k1) = (nI k1, zVL nn 0 (zcp (nn 0) (nn 0) i1 j1 k1), fd) from (by unfold zm_copy; rw [if_pos ⟨by decide, by decide⟩, show zc (0 : Int32) = 0 from rfl, if_neg (fun h => h.elim c36 c36), if_pos c64, if_pos ⟨c82h.1, c94h.1, c82h.2.1, c82h.2.2, c94h.2.2⟩, zc_nI (show i1 < 2147483648 by omega), zc_nI (show j1 < 2147483648 by omega), zc_nI (show k1 < 2147483648 by omega)])]; exact ⟨rfl, rfl⟩)
            · have c94 := zb_0.mp c94
              refine lv_aload_n hx hb dX5_copy_97 rfl (lv_at hl 2 rfl) ?_
              refine lv_ldc (v := (-1000000001)) hx hb hown (hts _ ckX5_51) dX5_copy_98 ?_
              refine zcVwi (r := (-1000000001)) hx hb hml hown hts hl.1 hK hE hA lkX5_52 (c_X5_found x b t S l0 T l1 K l2 ik fd tb tq bo so nn (-1000000001) 0 (by decide) (by decide)) ⟨Nat.le_of_ble_eq_true rfl, Nat.le_of_ble_eq_true rfl⟩ ⟨Nat.zero_le _, Nat.zero_le _⟩ hw 0 3 rfl rfl rfl rfl (Nat.le_of_ble_eq_true rfl) dX5_copy_100 (fun H locs hw => ?_)
              have hw : zHw x A s.heap (zHW x b t S l0 T l1 K l2 ik (upd fd 0 (fd 0 + 1)) tb tq bo so nn) H locs := hw
              exact zFG.iret hx hb hr hlocks hQ hw rfl dX5_copy_103 (by rw [show zm_copy bo so nn fd 0 fr 0 to vn = ((-1000000001), nn, zFd fd 0) from (by unfold zm_copy; rw [if_pos ⟨by decide, by decide⟩, show zc (0 : Int32) = 0 from rfl, if_neg (fun h => h.elim c36 c36), if_pos c64, if_neg (fun h => by first | exact c94 ((zspan hn2 hs2).mpr ⟨h.2.1, h.2.2.1, h.2.2.2.2⟩) | exact c82 ((zspan hn1 hs1).mpr ⟨h.1, h.2.2.1, h.2.2.2.1⟩))])]; exact ⟨rfl, rfl⟩)
        · refine lv_aload_n hx hb dX5_copy_67 rfl (lv_at hl 2 rfl) ?_
          refine lv_ldc (v := (-1000000003)) hx hb hown (hts _ ckX5_123) dX5_copy_68 ?_
          refine zcVwi (r := (-1000000003)) hx hb hml hown hts hl.1 hK hE hA lkX5_52 (c_X5_found x b t S l0 T l1 K l2 ik fd tb tq bo so nn (-1000000003) 2 (by decide) (by decide)) ⟨Nat.le_of_ble_eq_true rfl, Nat.le_of_ble_eq_true rfl⟩ ⟨Nat.zero_le _, Nat.zero_le _⟩ hw 0 3 rfl rfl rfl rfl (Nat.le_of_ble_eq_true rfl) dX5_copy_70 (fun H locs hw => ?_)
          have hw : zHw x A s.heap (zHW x b t S l0 T l1 K l2 ik (upd fd 2 (fd 2 + 1)) tb tq bo so nn) H locs := hw
          exact zFG.iret hx hb hr hlocks hQ hw rfl dX5_copy_73 (by rw [show zm_copy bo so nn fd 0 fr 0 to vn = ((-1000000003), nn, zFd fd 2) from (by unfold zm_copy; rw [if_pos ⟨by decide, by decide⟩, show zc (0 : Int32) = 0 from rfl, if_neg (fun h => h.elim c36 c36), if_neg c64])]; exact ⟨rfl, rfl⟩)
    · refine lv_aload_n hx hb dX5_copy_7 rfl (lv_at hl 1 rfl) ?_
      refine lv_iload_n hx hb dX5_copy_8 rfl (lv_at hl 4 rfl) ?_
      refine zcVwa hx hb hml hown hts hl.1 hK hE hA lkX5_219 (c_X5_sheetAt_1 x b t S l0 T l1 K l2 ik fd tb tq bo so nn) ⟨Nat.le_of_ble_eq_true rfl, Nat.le_of_ble_eq_true rfl⟩ ⟨Nat.zero_le _, Nat.zero_le _⟩ hw 0 3 rfl rfl rfl rfl (Nat.le_of_ble_eq_true rfl) dX5_copy_9 (fun H locs hw => ?_)
      have hw : zHw x A s.heap (zHW x b t S l0 T l1 K l2 ik fd tb tq bo so nn) H locs := hw
      refine lv_astore (lv' := [(7, .ref (b 6)), (6, .ref (b 5)), (0, .ref (b 0)), (1, .int 0), (2, .int fr), (3, .int 1), (4, .int to), (5, .int vn)]) hx hb dX5_copy_12 hl (by decide) rfl (fun ls hl => ?_)
      refine lv_aload hx hb dX5_copy_14 (lv_at hl 1 rfl) ?_
      refine lv_ifnull hx hb dX5_copy_16 ?_
      refine lv_aload hx hb dX5_copy_19 (lv_at hl 0 rfl) ?_
      refine lv_ifnonnull (tgt := 31) hx hb dX5_copy_21 (by decide) ?_
      refine lv_aload hx hb dX5_copy_31 (lv_at hl 1 rfl) ?_
      refine zcVmi (r := zb (bo 0 = 0)) (C1 := (zOW x b t ik fd ++ (zTW x (t 0) S l0 ++ (zTW x (t 1) T l1 ++ (zTW x (t 2) K l2 ++ zPW x b tb tq))))) (C2 := (zSH x (b 6) (b 10) (bo 1) (so 1) (nn 1) ++ (zSH x (b 7) (b 11) (bo 2) (so 2) (nn 2) ++ zSH x (b 8) (b 12) (bo 3) (so 3) (nn 3)))) hx hb hml hown hts hl.1 hK hE hA lkX5_228 (c_X1_isMissing x (b 5) (b 9) (bo 0) (so 0) (nn 0) ) ⟨Nat.le_of_ble_eq_true rfl, Nat.le_of_ble_eq_true rfl⟩ ⟨Nat.zero_le _, Nat.zero_le _⟩ hw 0 0 rfl rfl rfl rfl (Nat.le_of_ble_eq_true rfl) dX5_copy_33 (fun H locs hw => ?_)
      have hw : zHw x A s.heap (zHW x b t S l0 T l1 K l2 ik fd tb tq bo so nn) H locs := hw
      refine lv_if_ne (tgt := 47) hx hb dX5_copy_36 (by decide) (fun c36 => ?_) (fun c36 => ?_)
      · have c36 := zb_n0.mp c36
        refine lv_aload_n hx hb dX5_copy_47 rfl (lv_at hl 2 rfl) ?_
        refine lv_ldc (v := (-1000000006)) hx hb hown (hts _ ckX5_231) dX5_copy_48 ?_
        refine zcVwi (r := (-1000000006)) hx hb hml hown hts hl.1 hK hE hA lkX5_52 (c_X5_found x b t S l0 T l1 K l2 ik fd tb tq bo so nn (-1000000006) 5 (by decide) (by decide)) ⟨Nat.le_of_ble_eq_true rfl, Nat.le_of_ble_eq_true rfl⟩ ⟨Nat.zero_le _, Nat.zero_le _⟩ hw 0 3 rfl rfl rfl rfl (Nat.le_of_ble_eq_true rfl) dX5_copy_50 (fun H locs hw => ?_)
        have hw : zHw x A s.heap (zHW x b t S l0 T l1 K l2 ik (upd fd 5 (fd 5 + 1)) tb tq bo so nn) H locs := hw
        exact zFG.iret hx hb hr hlocks hQ hw rfl dX5_copy_53 (by rw [show zm_copy bo so nn fd 0 fr 1 to vn = ((-1000000006), nn, zFd fd 5) from (by unfold zm_copy; rw [if_pos ⟨by decide, by decide⟩, show zc (0 : Int32) = 0 from rfl, show zc (1 : Int32) = 1 from rfl, if_pos (by first | exact Or.inr c44 | exact Or.inl c36)])]; exact ⟨rfl, rfl⟩)
      · have c36 := zb_0.mp c36
        refine lv_aload hx hb dX5_copy_39 (lv_at hl 0 rfl) ?_
        refine zcVmi (r := zb (bo 1 = 0)) (C1 := (zOW x b t ik fd ++ (zTW x (t 0) S l0 ++ (zTW x (t 1) T l1 ++ (zTW x (t 2) K l2 ++ (zPW x b tb tq ++ zSH x (b 5) (b 9) (bo 0) (so 0) (nn 0))))))) (C2 := (zSH x (b 7) (b 11) (bo 2) (so 2) (nn 2) ++ zSH x (b 8) (b 12) (bo 3) (so 3) (nn 3))) hx hb hml hown hts hl.1 hK hE hA lkX5_228 (c_X1_isMissing x (b 6) (b 10) (bo 1) (so 1) (nn 1) ) ⟨Nat.le_of_ble_eq_true rfl, Nat.le_of_ble_eq_true rfl⟩ ⟨Nat.zero_le _, Nat.zero_le _⟩ hw 0 0 rfl rfl rfl rfl (Nat.le_of_ble_eq_true rfl) dX5_copy_41 (fun H locs hw => ?_)
        have hw : zHw x A s.heap (zHW x b t S l0 T l1 K l2 ik fd tb tq bo so nn) H locs := hw
        refine lv_if_eq (tgt := 54) hx hb dX5_copy_44 (by decide) (fun c44 => ?_) (fun c44 => ?_)
        · have c44 := zb_0.mp c44
          refine lv_aload hx hb dX5_copy_54 (lv_at hl 1 rfl) ?_
          refine gfX5_239 hx hb hown hts hK hw 32 rfl rfl dX5_copy_56 ?_
          refine lv_aload hx hb dX5_copy_59 (lv_at hl 0 rfl) ?_
          refine gfX5_239 hx hb hown hts hK hw 34 rfl rfl dX5_copy_61 ?_
          refine lv_icmp_eq (tgt := 74) hx hb dX5_copy_64 (by decide) (fun c64 => ?_) (fun c64 => ?_)
          · obtain ⟨-, n1, hn1, hs1⟩ := hS 0 (by decide)
            obtain ⟨-, n2, hn2, hs2⟩ := hS 1 (by decide)
            refine lv_aload hx hb dX5_copy_74 (lv_at hl 1 rfl) ?_
            refine lv_iload_n hx hb dX5_copy_76 rfl (lv_at hl 4 rfl) ?_
            refine lv_iload hx hb dX5_copy_77 (lv_at hl 7 rfl) ?_
            refine zcVmi (r := zb (0 ≤ fr ∧ 0 ≤ vn ∧ vn ≤ so 0 ∧ fr ≤ so 0 - vn)) (C1 := (zOW x b t ik fd ++ (zTW x (t 0) S l0 ++ (zTW x (t 1) T l1 ++ (zTW x (t 2) K l2 ++ zPW x b tb tq))))) (C2 := (zSH x (b 6) (b 10) (bo 1) (so 1) (nn 1) ++ (zSH x (b 7) (b 11) (bo 2) (so 2) (nn 2) ++ zSH x (b 8) (b 12) (bo 3) (so 3) (nn 3)))) hx hb hml hown hts hl.1 hK hE hA lkX5_242 (c_X1_hasSpan x (b 5) (b 9) (bo 0) (so 0) (nn 0) fr vn) ⟨Nat.le_of_ble_eq_true rfl, Nat.le_of_ble_eq_true rfl⟩ ⟨Nat.zero_le _, Nat.zero_le _⟩ hw 0 0 rfl rfl rfl rfl (Nat.le_of_ble_eq_true rfl) dX5_copy_79 (fun H locs hw => ?_)
            have hw : zHw x A s.heap (zHW x b t S l0 T l1 K l2 ik fd tb tq bo so nn) H locs := hw
            refine lv_if_eq (tgt := 97) hx hb dX5_copy_82 (by decide) (fun c82 => ?_) (fun c82 => ?_)
            · have c82 := zb_0.mp c82
              refine lv_aload_n hx hb dX5_copy_97 rfl (lv_at hl 2 rfl) ?_
              refine lv_ldc (v := (-1000000001)) hx hb hown (hts _ ckX5_51) dX5_copy_98 ?_
              refine zcVwi (r := (-1000000001)) hx hb hml hown hts hl.1 hK hE hA lkX5_52 (c_X5_found x b t S l0 T l1 K l2 ik fd tb tq bo so nn (-1000000001) 0 (by decide) (by decide)) ⟨Nat.le_of_ble_eq_true rfl, Nat.le_of_ble_eq_true rfl⟩ ⟨Nat.zero_le _, Nat.zero_le _⟩ hw 0 3 rfl rfl rfl rfl (Nat.le_of_ble_eq_true rfl) dX5_copy_100 (fun H locs hw => ?_)
              have hw : zHw x A s.heap (zHW x b t S l0 T l1 K l2 ik (upd fd 0 (fd 0 + 1)) tb tq bo so nn) H locs := hw
              exact zFG.iret hx hb hr hlocks hQ hw rfl dX5_copy_103 (by rw [show zm_copy bo so nn fd 0 fr 1 to vn = ((-1000000001), nn, zFd fd 0) from (by unfold zm_copy; rw [if_pos ⟨by decide, by decide⟩, show zc (0 : Int32) = 0 from rfl, show zc (1 : Int32) = 1 from rfl, if_neg (fun h => h.elim c36 c44), if_pos c64, if_neg (fun h => by first | exact c94 ((zspan hn2 hs2).mpr ⟨h.2.1, h.2.2.1, h.2.2.2.2⟩) | exact c82 ((zspan hn1 hs1).mpr ⟨h.1, h.2.2.1, h.2.2.2.1⟩))])]; exact ⟨rfl, rfl⟩)
            · have c82 := zb_n0.mp c82
              refine lv_aload hx hb dX5_copy_85 (lv_at hl 0 rfl) ?_
              refine lv_iload hx hb dX5_copy_87 (lv_at hl 6 rfl) ?_
              refine lv_iload hx hb dX5_copy_89 (lv_at hl 7 rfl) ?_
              refine zcVmi (r := zb (0 ≤ to ∧ 0 ≤ vn ∧ vn ≤ so 1 ∧ to ≤ so 1 - vn)) (C1 := (zOW x b t ik fd ++ (zTW x (t 0) S l0 ++ (zTW x (t 1) T l1 ++ (zTW x (t 2) K l2 ++ (zPW x b tb tq ++ zSH x (b 5) (b 9) (bo 0) (so 0) (nn 0))))))) (C2 := (zSH x (b 7) (b 11) (bo 2) (so 2) (nn 2) ++ zSH x (b 8) (b 12) (bo 3) (so 3) (nn 3))) hx hb hml hown hts hl.1 hK hE hA lkX5_242 (c_X1_hasSpan x (b 6) (b 10) (bo 1) (so 1) (nn 1) to vn) ⟨Nat.le_of_ble_eq_true rfl, Nat.le_of_ble_eq_true rfl⟩ ⟨Nat.zero_le _, Nat.zero_le _⟩ hw 0 0 rfl rfl rfl rfl (Nat.le_of_ble_eq_true rfl) dX5_copy_91 (fun H locs hw => ?_)
              have hw : zHw x A s.heap (zHW x b t S l0 T l1 K l2 ik fd tb tq bo so nn) H locs := hw
              refine lv_if_ne (tgt := 104) hx hb dX5_copy_94 (by decide) (fun c94 => ?_) (fun c94 => ?_)
              · have c94 := zb_n0.mp c94
                have c82h := (zspan hn1 hs1).mp c82
                have c94h := (zspan hn2 hs2).mp c94
                obtain ⟨i1, k1, rfl, rfl, hb1⟩ := zspan_nat hn1 hs1 c82
                obtain ⟨j1, k2, rfl, ek, hb2⟩ := zspan_nat hn2 hs2 c94
                have ek : k1 = k2 := (nI_eq (by omega) (by omega)).mp ek
                subst ek
                refine lv_aload hx hb dX5_copy_104 (lv_at hl 1 rfl) ?_
                refine gfX5_232 hx hb hown hts hK hw 32 rfl rfl dX5_copy_106 ?_
                refine lv_iload_n hx hb dX5_copy_109 rfl (lv_at hl 4 rfl) ?_
                refine lv_aload hx hb dX5_copy_110 (lv_at hl 0 rfl) ?_
                refine gfX5_232 hx hb hown hts hK hw 34 rfl rfl dX5_copy_112 ?_
                refine lv_iload hx hb dX5_copy_115 (lv_at hl 6 rfl) ?_
                refine lv_iload hx hb dX5_copy_117 (lv_at hl 7 rfl) ?_
                refine zcpyL hx hb (hml.trans hl.1.symm) hown hts acX5 hK hw 33 35 i1 j1 k1 rfl rfl (by omega) (by omega) ⟨Nat.le_of_ble_eq_true rfl, Nat.le_of_ble_eq_true rfl⟩ dX5_copy_119 (fun H locs hw => ?_)
                have hw : zHw x A s.heap (zHW x b t S l0 T l1 K l2 ik fd tb tq bo so (zVL nn 1 (zcp (nn 0) (nn 1) i1 j1 k1))) H locs := hw
                refine lv_iload hx hb dX5_copy_122 (lv_at hl 7 rfl) ?_
                exact zFG.iret hx hb hr hlocks hQ hw rfl dX5_copy_124 (by rw [show zm_copy bo so nn fd 0 (nI i1) 1 (nI j1) (nI k1) = (nI k1, zVL nn 1 (zcp (nn 0) (nn 1) i1 j1 k1), fd) from (by unfold zm_copy; rw [if_pos ⟨by decide, by decide⟩, show zc (0 : Int32) = 0 from rfl, show zc (1 : Int32) = 1 from rfl, if_neg (fun h => h.elim c36 c44), if_pos c64, if_pos ⟨c82h.1, c94h.1, c82h.2.1, c82h.2.2, c94h.2.2⟩, zc_nI (show i1 < 2147483648 by omega), zc_nI (show j1 < 2147483648 by omega), zc_nI (show k1 < 2147483648 by omega)])]; exact ⟨rfl, rfl⟩)
              · have c94 := zb_0.mp c94
                refine lv_aload_n hx hb dX5_copy_97 rfl (lv_at hl 2 rfl) ?_
                refine lv_ldc (v := (-1000000001)) hx hb hown (hts _ ckX5_51) dX5_copy_98 ?_
                refine zcVwi (r := (-1000000001)) hx hb hml hown hts hl.1 hK hE hA lkX5_52 (c_X5_found x b t S l0 T l1 K l2 ik fd tb tq bo so nn (-1000000001) 0 (by decide) (by decide)) ⟨Nat.le_of_ble_eq_true rfl, Nat.le_of_ble_eq_true rfl⟩ ⟨Nat.zero_le _, Nat.zero_le _⟩ hw 0 3 rfl rfl rfl rfl (Nat.le_of_ble_eq_true rfl) dX5_copy_100 (fun H locs hw => ?_)
                have hw : zHw x A s.heap (zHW x b t S l0 T l1 K l2 ik (upd fd 0 (fd 0 + 1)) tb tq bo so nn) H locs := hw
                exact zFG.iret hx hb hr hlocks hQ hw rfl dX5_copy_103 (by rw [show zm_copy bo so nn fd 0 fr 1 to vn = ((-1000000001), nn, zFd fd 0) from (by unfold zm_copy; rw [if_pos ⟨by decide, by decide⟩, show zc (0 : Int32) = 0 from rfl, show zc (1 : Int32) = 1 from rfl, if_neg (fun h => h.elim c36 c44), if_pos c64, if_neg (fun h => by first | exact c94 ((zspan hn2 hs2).mpr ⟨h.2.1, h.2.2.1, h.2.2.2.2⟩) | exact c82 ((zspan hn1 hs1).mpr ⟨h.1, h.2.2.1, h.2.2.2.1⟩))])]; exact ⟨rfl, rfl⟩)
          · refine lv_aload_n hx hb dX5_copy_67 rfl (lv_at hl 2 rfl) ?_
            refine lv_ldc (v := (-1000000003)) hx hb hown (hts _ ckX5_123) dX5_copy_68 ?_
            refine zcVwi (r := (-1000000003)) hx hb hml hown hts hl.1 hK hE hA lkX5_52 (c_X5_found x b t S l0 T l1 K l2 ik fd tb tq bo so nn (-1000000003) 2 (by decide) (by decide)) ⟨Nat.le_of_ble_eq_true rfl, Nat.le_of_ble_eq_true rfl⟩ ⟨Nat.zero_le _, Nat.zero_le _⟩ hw 0 3 rfl rfl rfl rfl (Nat.le_of_ble_eq_true rfl) dX5_copy_70 (fun H locs hw => ?_)
            have hw : zHw x A s.heap (zHW x b t S l0 T l1 K l2 ik (upd fd 2 (fd 2 + 1)) tb tq bo so nn) H locs := hw
            exact zFG.iret hx hb hr hlocks hQ hw rfl dX5_copy_73 (by rw [show zm_copy bo so nn fd 0 fr 1 to vn = ((-1000000003), nn, zFd fd 2) from (by unfold zm_copy; rw [if_pos ⟨by decide, by decide⟩, show zc (0 : Int32) = 0 from rfl, show zc (1 : Int32) = 1 from rfl, if_neg (fun h => h.elim c36 c44), if_neg c64])]; exact ⟨rfl, rfl⟩)
        · have c44 := zb_n0.mp c44
          refine lv_aload_n hx hb dX5_copy_47 rfl (lv_at hl 2 rfl) ?_
          refine lv_ldc (v := (-1000000006)) hx hb hown (hts _ ckX5_231) dX5_copy_48 ?_
          refine zcVwi (r := (-1000000006)) hx hb hml hown hts hl.1 hK hE hA lkX5_52 (c_X5_found x b t S l0 T l1 K l2 ik fd tb tq bo so nn (-1000000006) 5 (by decide) (by decide)) ⟨Nat.le_of_ble_eq_true rfl, Nat.le_of_ble_eq_true rfl⟩ ⟨Nat.zero_le _, Nat.zero_le _⟩ hw 0 3 rfl rfl rfl rfl (Nat.le_of_ble_eq_true rfl) dX5_copy_50 (fun H locs hw => ?_)
          have hw : zHw x A s.heap (zHW x b t S l0 T l1 K l2 ik (upd fd 5 (fd 5 + 1)) tb tq bo so nn) H locs := hw
          exact zFG.iret hx hb hr hlocks hQ hw rfl dX5_copy_53 (by rw [show zm_copy bo so nn fd 0 fr 1 to vn = ((-1000000006), nn, zFd fd 5) from (by unfold zm_copy; rw [if_pos ⟨by decide, by decide⟩, show zc (0 : Int32) = 0 from rfl, show zc (1 : Int32) = 1 from rfl, if_pos (by first | exact Or.inr c44 | exact Or.inl c36)])]; exact ⟨rfl, rfl⟩)
    · refine lv_aload_n hx hb dX5_copy_7 rfl (lv_at hl 1 rfl) ?_
      refine lv_iload_n hx hb dX5_copy_8 rfl (lv_at hl 4 rfl) ?_
      refine zcVwa hx hb hml hown hts hl.1 hK hE hA lkX5_219 (c_X5_sheetAt_2 x b t S l0 T l1 K l2 ik fd tb tq bo so nn) ⟨Nat.le_of_ble_eq_true rfl, Nat.le_of_ble_eq_true rfl⟩ ⟨Nat.zero_le _, Nat.zero_le _⟩ hw 0 3 rfl rfl rfl rfl (Nat.le_of_ble_eq_true rfl) dX5_copy_9 (fun H locs hw => ?_)
      have hw : zHw x A s.heap (zHW x b t S l0 T l1 K l2 ik fd tb tq bo so nn) H locs := hw
      refine lv_astore (lv' := [(7, .ref (b 7)), (6, .ref (b 5)), (0, .ref (b 0)), (1, .int 0), (2, .int fr), (3, .int 2), (4, .int to), (5, .int vn)]) hx hb dX5_copy_12 hl (by decide) rfl (fun ls hl => ?_)
      refine lv_aload hx hb dX5_copy_14 (lv_at hl 1 rfl) ?_
      refine lv_ifnull hx hb dX5_copy_16 ?_
      refine lv_aload hx hb dX5_copy_19 (lv_at hl 0 rfl) ?_
      refine lv_ifnonnull (tgt := 31) hx hb dX5_copy_21 (by decide) ?_
      refine lv_aload hx hb dX5_copy_31 (lv_at hl 1 rfl) ?_
      refine zcVmi (r := zb (bo 0 = 0)) (C1 := (zOW x b t ik fd ++ (zTW x (t 0) S l0 ++ (zTW x (t 1) T l1 ++ (zTW x (t 2) K l2 ++ zPW x b tb tq))))) (C2 := (zSH x (b 6) (b 10) (bo 1) (so 1) (nn 1) ++ (zSH x (b 7) (b 11) (bo 2) (so 2) (nn 2) ++ zSH x (b 8) (b 12) (bo 3) (so 3) (nn 3)))) hx hb hml hown hts hl.1 hK hE hA lkX5_228 (c_X1_isMissing x (b 5) (b 9) (bo 0) (so 0) (nn 0) ) ⟨Nat.le_of_ble_eq_true rfl, Nat.le_of_ble_eq_true rfl⟩ ⟨Nat.zero_le _, Nat.zero_le _⟩ hw 0 0 rfl rfl rfl rfl (Nat.le_of_ble_eq_true rfl) dX5_copy_33 (fun H locs hw => ?_)
      have hw : zHw x A s.heap (zHW x b t S l0 T l1 K l2 ik fd tb tq bo so nn) H locs := hw
      refine lv_if_ne (tgt := 47) hx hb dX5_copy_36 (by decide) (fun c36 => ?_) (fun c36 => ?_)
      · have c36 := zb_n0.mp c36
        refine lv_aload_n hx hb dX5_copy_47 rfl (lv_at hl 2 rfl) ?_
        refine lv_ldc (v := (-1000000006)) hx hb hown (hts _ ckX5_231) dX5_copy_48 ?_
        refine zcVwi (r := (-1000000006)) hx hb hml hown hts hl.1 hK hE hA lkX5_52 (c_X5_found x b t S l0 T l1 K l2 ik fd tb tq bo so nn (-1000000006) 5 (by decide) (by decide)) ⟨Nat.le_of_ble_eq_true rfl, Nat.le_of_ble_eq_true rfl⟩ ⟨Nat.zero_le _, Nat.zero_le _⟩ hw 0 3 rfl rfl rfl rfl (Nat.le_of_ble_eq_true rfl) dX5_copy_50 (fun H locs hw => ?_)
        have hw : zHw x A s.heap (zHW x b t S l0 T l1 K l2 ik (upd fd 5 (fd 5 + 1)) tb tq bo so nn) H locs := hw
        exact zFG.iret hx hb hr hlocks hQ hw rfl dX5_copy_53 (by rw [show zm_copy bo so nn fd 0 fr 2 to vn = ((-1000000006), nn, zFd fd 5) from (by unfold zm_copy; rw [if_pos ⟨by decide, by decide⟩, show zc (0 : Int32) = 0 from rfl, show zc (2 : Int32) = 2 from rfl, if_pos (by first | exact Or.inr c44 | exact Or.inl c36)])]; exact ⟨rfl, rfl⟩)
      · have c36 := zb_0.mp c36
        refine lv_aload hx hb dX5_copy_39 (lv_at hl 0 rfl) ?_
        refine zcVmi (r := zb (bo 2 = 0)) (C1 := (zOW x b t ik fd ++ (zTW x (t 0) S l0 ++ (zTW x (t 1) T l1 ++ (zTW x (t 2) K l2 ++ (zPW x b tb tq ++ (zSH x (b 5) (b 9) (bo 0) (so 0) (nn 0) ++ zSH x (b 6) (b 10) (bo 1) (so 1) (nn 1)))))))) (C2 := (zSH x (b 8) (b 12) (bo 3) (so 3) (nn 3))) hx hb hml hown hts hl.1 hK hE hA lkX5_228 (c_X1_isMissing x (b 7) (b 11) (bo 2) (so 2) (nn 2) ) ⟨Nat.le_of_ble_eq_true rfl, Nat.le_of_ble_eq_true rfl⟩ ⟨Nat.zero_le _, Nat.zero_le _⟩ hw 0 0 rfl rfl rfl rfl (Nat.le_of_ble_eq_true rfl) dX5_copy_41 (fun H locs hw => ?_)
        have hw : zHw x A s.heap (zHW x b t S l0 T l1 K l2 ik fd tb tq bo so nn) H locs := hw
        refine lv_if_eq (tgt := 54) hx hb dX5_copy_44 (by decide) (fun c44 => ?_) (fun c44 => ?_)
        · have c44 := zb_0.mp c44
          refine lv_aload hx hb dX5_copy_54 (lv_at hl 1 rfl) ?_
          refine gfX5_239 hx hb hown hts hK hw 32 rfl rfl dX5_copy_56 ?_
          refine lv_aload hx hb dX5_copy_59 (lv_at hl 0 rfl) ?_
          refine gfX5_239 hx hb hown hts hK hw 36 rfl rfl dX5_copy_61 ?_
          refine lv_icmp_eq (tgt := 74) hx hb dX5_copy_64 (by decide) (fun c64 => ?_) (fun c64 => ?_)
          · obtain ⟨-, n1, hn1, hs1⟩ := hS 0 (by decide)
            obtain ⟨-, n2, hn2, hs2⟩ := hS 2 (by decide)
            refine lv_aload hx hb dX5_copy_74 (lv_at hl 1 rfl) ?_
            refine lv_iload_n hx hb dX5_copy_76 rfl (lv_at hl 4 rfl) ?_
            refine lv_iload hx hb dX5_copy_77 (lv_at hl 7 rfl) ?_
            refine zcVmi (r := zb (0 ≤ fr ∧ 0 ≤ vn ∧ vn ≤ so 0 ∧ fr ≤ so 0 - vn)) (C1 := (zOW x b t ik fd ++ (zTW x (t 0) S l0 ++ (zTW x (t 1) T l1 ++ (zTW x (t 2) K l2 ++ zPW x b tb tq))))) (C2 := (zSH x (b 6) (b 10) (bo 1) (so 1) (nn 1) ++ (zSH x (b 7) (b 11) (bo 2) (so 2) (nn 2) ++ zSH x (b 8) (b 12) (bo 3) (so 3) (nn 3)))) hx hb hml hown hts hl.1 hK hE hA lkX5_242 (c_X1_hasSpan x (b 5) (b 9) (bo 0) (so 0) (nn 0) fr vn) ⟨Nat.le_of_ble_eq_true rfl, Nat.le_of_ble_eq_true rfl⟩ ⟨Nat.zero_le _, Nat.zero_le _⟩ hw 0 0 rfl rfl rfl rfl (Nat.le_of_ble_eq_true rfl) dX5_copy_79 (fun H locs hw => ?_)
            have hw : zHw x A s.heap (zHW x b t S l0 T l1 K l2 ik fd tb tq bo so nn) H locs := hw
            refine lv_if_eq (tgt := 97) hx hb dX5_copy_82 (by decide) (fun c82 => ?_) (fun c82 => ?_)
            · have c82 := zb_0.mp c82
              refine lv_aload_n hx hb dX5_copy_97 rfl (lv_at hl 2 rfl) ?_
              refine lv_ldc (v := (-1000000001)) hx hb hown (hts _ ckX5_51) dX5_copy_98 ?_
              refine zcVwi (r := (-1000000001)) hx hb hml hown hts hl.1 hK hE hA lkX5_52 (c_X5_found x b t S l0 T l1 K l2 ik fd tb tq bo so nn (-1000000001) 0 (by decide) (by decide)) ⟨Nat.le_of_ble_eq_true rfl, Nat.le_of_ble_eq_true rfl⟩ ⟨Nat.zero_le _, Nat.zero_le _⟩ hw 0 3 rfl rfl rfl rfl (Nat.le_of_ble_eq_true rfl) dX5_copy_100 (fun H locs hw => ?_)
              have hw : zHw x A s.heap (zHW x b t S l0 T l1 K l2 ik (upd fd 0 (fd 0 + 1)) tb tq bo so nn) H locs := hw
              exact zFG.iret hx hb hr hlocks hQ hw rfl dX5_copy_103 (by rw [show zm_copy bo so nn fd 0 fr 2 to vn = ((-1000000001), nn, zFd fd 0) from (by unfold zm_copy; rw [if_pos ⟨by decide, by decide⟩, show zc (0 : Int32) = 0 from rfl, show zc (2 : Int32) = 2 from rfl, if_neg (fun h => h.elim c36 c44), if_pos c64, if_neg (fun h => by first | exact c94 ((zspan hn2 hs2).mpr ⟨h.2.1, h.2.2.1, h.2.2.2.2⟩) | exact c82 ((zspan hn1 hs1).mpr ⟨h.1, h.2.2.1, h.2.2.2.1⟩))])]; exact ⟨rfl, rfl⟩)
            · have c82 := zb_n0.mp c82
              refine lv_aload hx hb dX5_copy_85 (lv_at hl 0 rfl) ?_
              refine lv_iload hx hb dX5_copy_87 (lv_at hl 6 rfl) ?_
              refine lv_iload hx hb dX5_copy_89 (lv_at hl 7 rfl) ?_
              refine zcVmi (r := zb (0 ≤ to ∧ 0 ≤ vn ∧ vn ≤ so 2 ∧ to ≤ so 2 - vn)) (C1 := (zOW x b t ik fd ++ (zTW x (t 0) S l0 ++ (zTW x (t 1) T l1 ++ (zTW x (t 2) K l2 ++ (zPW x b tb tq ++ (zSH x (b 5) (b 9) (bo 0) (so 0) (nn 0) ++ zSH x (b 6) (b 10) (bo 1) (so 1) (nn 1)))))))) (C2 := (zSH x (b 8) (b 12) (bo 3) (so 3) (nn 3))) hx hb hml hown hts hl.1 hK hE hA lkX5_242 (c_X1_hasSpan x (b 7) (b 11) (bo 2) (so 2) (nn 2) to vn) ⟨Nat.le_of_ble_eq_true rfl, Nat.le_of_ble_eq_true rfl⟩ ⟨Nat.zero_le _, Nat.zero_le _⟩ hw 0 0 rfl rfl rfl rfl (Nat.le_of_ble_eq_true rfl) dX5_copy_91 (fun H locs hw => ?_)
              have hw : zHw x A s.heap (zHW x b t S l0 T l1 K l2 ik fd tb tq bo so nn) H locs := hw
              refine lv_if_ne (tgt := 104) hx hb dX5_copy_94 (by decide) (fun c94 => ?_) (fun c94 => ?_)
              · have c94 := zb_n0.mp c94
                have c82h := (zspan hn1 hs1).mp c82
                have c94h := (zspan hn2 hs2).mp c94
                obtain ⟨i1, k1, rfl, rfl, hb1⟩ := zspan_nat hn1 hs1 c82
                obtain ⟨j1, k2, rfl, ek, hb2⟩ := zspan_nat hn2 hs2 c94
                have ek : k1 = k2 := (nI_eq (by omega) (by omega)).mp ek
                subst ek
                refine lv_aload hx hb dX5_copy_104 (lv_at hl 1 rfl) ?_
                refine gfX5_232 hx hb hown hts hK hw 32 rfl rfl dX5_copy_106 ?_
                refine lv_iload_n hx hb dX5_copy_109 rfl (lv_at hl 4 rfl) ?_
                refine lv_aload hx hb dX5_copy_110 (lv_at hl 0 rfl) ?_
                refine gfX5_232 hx hb hown hts hK hw 36 rfl rfl dX5_copy_112 ?_
                refine lv_iload hx hb dX5_copy_115 (lv_at hl 6 rfl) ?_
                refine lv_iload hx hb dX5_copy_117 (lv_at hl 7 rfl) ?_
                refine zcpyL hx hb (hml.trans hl.1.symm) hown hts acX5 hK hw 33 37 i1 j1 k1 rfl rfl (by omega) (by omega) ⟨Nat.le_of_ble_eq_true rfl, Nat.le_of_ble_eq_true rfl⟩ dX5_copy_119 (fun H locs hw => ?_)
                have hw : zHw x A s.heap (zHW x b t S l0 T l1 K l2 ik fd tb tq bo so (zVL nn 2 (zcp (nn 0) (nn 2) i1 j1 k1))) H locs := hw
                refine lv_iload hx hb dX5_copy_122 (lv_at hl 7 rfl) ?_
                exact zFG.iret hx hb hr hlocks hQ hw rfl dX5_copy_124 (by rw [show zm_copy bo so nn fd 0 (nI i1) 2 (nI j1) (nI k1) = (nI k1, zVL nn 2 (zcp (nn 0) (nn 2) i1 j1 k1), fd) from (by unfold zm_copy; rw [if_pos ⟨by decide, by decide⟩, show zc (0 : Int32) = 0 from rfl, show zc (2 : Int32) = 2 from rfl, if_neg (fun h => h.elim c36 c44), if_pos c64, if_pos ⟨c82h.1, c94h.1, c82h.2.1, c82h.2.2, c94h.2.2⟩, zc_nI (show i1 < 2147483648 by omega), zc_nI (show j1 < 2147483648 by omega), zc_nI (show k1 < 2147483648 by omega)])]; exact ⟨rfl, rfl⟩)
              · have c94 := zb_0.mp c94
                refine lv_aload_n hx hb dX5_copy_97 rfl (lv_at hl 2 rfl) ?_
                refine lv_ldc (v := (-1000000001)) hx hb hown (hts _ ckX5_51) dX5_copy_98 ?_
                refine zcVwi (r := (-1000000001)) hx hb hml hown hts hl.1 hK hE hA lkX5_52 (c_X5_found x b t S l0 T l1 K l2 ik fd tb tq bo so nn (-1000000001) 0 (by decide) (by decide)) ⟨Nat.le_of_ble_eq_true rfl, Nat.le_of_ble_eq_true rfl⟩ ⟨Nat.zero_le _, Nat.zero_le _⟩ hw 0 3 rfl rfl rfl rfl (Nat.le_of_ble_eq_true rfl) dX5_copy_100 (fun H locs hw => ?_)
                have hw : zHw x A s.heap (zHW x b t S l0 T l1 K l2 ik (upd fd 0 (fd 0 + 1)) tb tq bo so nn) H locs := hw
                exact zFG.iret hx hb hr hlocks hQ hw rfl dX5_copy_103 (by rw [show zm_copy bo so nn fd 0 fr 2 to vn = ((-1000000001), nn, zFd fd 0) from (by unfold zm_copy; rw [if_pos ⟨by decide, by decide⟩, show zc (0 : Int32) = 0 from rfl, show zc (2 : Int32) = 2 from rfl, if_neg (fun h => h.elim c36 c44), if_pos c64, if_neg (fun h => by first | exact c94 ((zspan hn2 hs2).mpr ⟨h.2.1, h.2.2.1, h.2.2.2.2⟩) | exact c82 ((zspan hn1 hs1).mpr ⟨h.1, h.2.2.1, h.2.2.2.1⟩))])]; exact ⟨rfl, rfl⟩)
          · refine lv_aload_n hx hb dX5_copy_67 rfl (lv_at hl 2 rfl) ?_
            refine lv_ldc (v := (-1000000003)) hx hb hown (hts _ ckX5_123) dX5_copy_68 ?_
            refine zcVwi (r := (-1000000003)) hx hb hml hown hts hl.1 hK hE hA lkX5_52 (c_X5_found x b t S l0 T l1 K l2 ik fd tb tq bo so nn (-1000000003) 2 (by decide) (by decide)) ⟨Nat.le_of_ble_eq_true rfl, Nat.le_of_ble_eq_true rfl⟩ ⟨Nat.zero_le _, Nat.zero_le _⟩ hw 0 3 rfl rfl rfl rfl (Nat.le_of_ble_eq_true rfl) dX5_copy_70 (fun H locs hw => ?_)
            have hw : zHw x A s.heap (zHW x b t S l0 T l1 K l2 ik (upd fd 2 (fd 2 + 1)) tb tq bo so nn) H locs := hw
            exact zFG.iret hx hb hr hlocks hQ hw rfl dX5_copy_73 (by rw [show zm_copy bo so nn fd 0 fr 2 to vn = ((-1000000003), nn, zFd fd 2) from (by unfold zm_copy; rw [if_pos ⟨by decide, by decide⟩, show zc (0 : Int32) = 0 from rfl, show zc (2 : Int32) = 2 from rfl, if_neg (fun h => h.elim c36 c44), if_neg c64])]; exact ⟨rfl, rfl⟩)
        · have c44 := zb_n0.mp c44
          refine lv_aload_n hx hb dX5_copy_47 rfl (lv_at hl 2 rfl) ?_
          refine lv_ldc (v := (-1000000006)) hx hb hown (hts _ ckX5_231) dX5_copy_48 ?_
          refine zcVwi (r := (-1000000006)) hx hb hml hown hts hl.1 hK hE hA lkX5_52 (c_X5_found x b t S l0 T l1 K l2 ik fd tb tq bo so nn (-1000000006) 5 (by decide) (by decide)) ⟨Nat.le_of_ble_eq_true rfl, Nat.le_of_ble_eq_true rfl⟩ ⟨Nat.zero_le _, Nat.zero_le _⟩ hw 0 3 rfl rfl rfl rfl (Nat.le_of_ble_eq_true rfl) dX5_copy_50 (fun H locs hw => ?_)
          have hw : zHw x A s.heap (zHW x b t S l0 T l1 K l2 ik (upd fd 5 (fd 5 + 1)) tb tq bo so nn) H locs := hw
          exact zFG.iret hx hb hr hlocks hQ hw rfl dX5_copy_53 (by rw [show zm_copy bo so nn fd 0 fr 2 to vn = ((-1000000006), nn, zFd fd 5) from (by unfold zm_copy; rw [if_pos ⟨by decide, by decide⟩, show zc (0 : Int32) = 0 from rfl, show zc (2 : Int32) = 2 from rfl, if_pos (by first | exact Or.inr c44 | exact Or.inl c36)])]; exact ⟨rfl, rfl⟩)
    · refine lv_aload_n hx hb dX5_copy_7 rfl (lv_at hl 1 rfl) ?_
      refine lv_iload_n hx hb dX5_copy_8 rfl (lv_at hl 4 rfl) ?_
      refine zcVwa hx hb hml hown hts hl.1 hK hE hA lkX5_219 (c_X5_sheetAt_3 x b t S l0 T l1 K l2 ik fd tb tq bo so nn) ⟨Nat.le_of_ble_eq_true rfl, Nat.le_of_ble_eq_true rfl⟩ ⟨Nat.zero_le _, Nat.zero_le _⟩ hw 0 3 rfl rfl rfl rfl (Nat.le_of_ble_eq_true rfl) dX5_copy_9 (fun H locs hw => ?_)
      have hw : zHw x A s.heap (zHW x b t S l0 T l1 K l2 ik fd tb tq bo so nn) H locs := hw
      refine lv_astore (lv' := [(7, .ref (b 8)), (6, .ref (b 5)), (0, .ref (b 0)), (1, .int 0), (2, .int fr), (3, .int 3), (4, .int to), (5, .int vn)]) hx hb dX5_copy_12 hl (by decide) rfl (fun ls hl => ?_)
      refine lv_aload hx hb dX5_copy_14 (lv_at hl 1 rfl) ?_
      refine lv_ifnull hx hb dX5_copy_16 ?_
      refine lv_aload hx hb dX5_copy_19 (lv_at hl 0 rfl) ?_
      refine lv_ifnonnull (tgt := 31) hx hb dX5_copy_21 (by decide) ?_
      refine lv_aload hx hb dX5_copy_31 (lv_at hl 1 rfl) ?_
      refine zcVmi (r := zb (bo 0 = 0)) (C1 := (zOW x b t ik fd ++ (zTW x (t 0) S l0 ++ (zTW x (t 1) T l1 ++ (zTW x (t 2) K l2 ++ zPW x b tb tq))))) (C2 := (zSH x (b 6) (b 10) (bo 1) (so 1) (nn 1) ++ (zSH x (b 7) (b 11) (bo 2) (so 2) (nn 2) ++ zSH x (b 8) (b 12) (bo 3) (so 3) (nn 3)))) hx hb hml hown hts hl.1 hK hE hA lkX5_228 (c_X1_isMissing x (b 5) (b 9) (bo 0) (so 0) (nn 0) ) ⟨Nat.le_of_ble_eq_true rfl, Nat.le_of_ble_eq_true rfl⟩ ⟨Nat.zero_le _, Nat.zero_le _⟩ hw 0 0 rfl rfl rfl rfl (Nat.le_of_ble_eq_true rfl) dX5_copy_33 (fun H locs hw => ?_)
      have hw : zHw x A s.heap (zHW x b t S l0 T l1 K l2 ik fd tb tq bo so nn) H locs := hw
      refine lv_if_ne (tgt := 47) hx hb dX5_copy_36 (by decide) (fun c36 => ?_) (fun c36 => ?_)
      · have c36 := zb_n0.mp c36
        refine lv_aload_n hx hb dX5_copy_47 rfl (lv_at hl 2 rfl) ?_
        refine lv_ldc (v := (-1000000006)) hx hb hown (hts _ ckX5_231) dX5_copy_48 ?_
        refine zcVwi (r := (-1000000006)) hx hb hml hown hts hl.1 hK hE hA lkX5_52 (c_X5_found x b t S l0 T l1 K l2 ik fd tb tq bo so nn (-1000000006) 5 (by decide) (by decide)) ⟨Nat.le_of_ble_eq_true rfl, Nat.le_of_ble_eq_true rfl⟩ ⟨Nat.zero_le _, Nat.zero_le _⟩ hw 0 3 rfl rfl rfl rfl (Nat.le_of_ble_eq_true rfl) dX5_copy_50 (fun H locs hw => ?_)
        have hw : zHw x A s.heap (zHW x b t S l0 T l1 K l2 ik (upd fd 5 (fd 5 + 1)) tb tq bo so nn) H locs := hw
        exact zFG.iret hx hb hr hlocks hQ hw rfl dX5_copy_53 (by rw [show zm_copy bo so nn fd 0 fr 3 to vn = ((-1000000006), nn, zFd fd 5) from (by unfold zm_copy; rw [if_pos ⟨by decide, by decide⟩, show zc (0 : Int32) = 0 from rfl, show zc (3 : Int32) = 3 from rfl, if_pos (by first | exact Or.inr c44 | exact Or.inl c36)])]; exact ⟨rfl, rfl⟩)
      · have c36 := zb_0.mp c36
        refine lv_aload hx hb dX5_copy_39 (lv_at hl 0 rfl) ?_
        refine zcVmi (r := zb (bo 3 = 0)) (C1 := (zOW x b t ik fd ++ (zTW x (t 0) S l0 ++ (zTW x (t 1) T l1 ++ (zTW x (t 2) K l2 ++ (zPW x b tb tq ++ (zSH x (b 5) (b 9) (bo 0) (so 0) (nn 0) ++ (zSH x (b 6) (b 10) (bo 1) (so 1) (nn 1) ++ zSH x (b 7) (b 11) (bo 2) (so 2) (nn 2))))))))) (C2 := []) hx hb hml hown hts hl.1 hK hE hA lkX5_228 (c_X1_isMissing x (b 8) (b 12) (bo 3) (so 3) (nn 3) ) ⟨Nat.le_of_ble_eq_true rfl, Nat.le_of_ble_eq_true rfl⟩ ⟨Nat.zero_le _, Nat.zero_le _⟩ hw 0 0 rfl rfl rfl rfl (Nat.le_of_ble_eq_true rfl) dX5_copy_41 (fun H locs hw => ?_)
        have hw : zHw x A s.heap (zHW x b t S l0 T l1 K l2 ik fd tb tq bo so nn) H locs := hw
        refine lv_if_eq (tgt := 54) hx hb dX5_copy_44 (by decide) (fun c44 => ?_) (fun c44 => ?_)
        · have c44 := zb_0.mp c44
          refine lv_aload hx hb dX5_copy_54 (lv_at hl 1 rfl) ?_
          refine gfX5_239 hx hb hown hts hK hw 32 rfl rfl dX5_copy_56 ?_
          refine lv_aload hx hb dX5_copy_59 (lv_at hl 0 rfl) ?_
          refine gfX5_239 hx hb hown hts hK hw 38 rfl rfl dX5_copy_61 ?_
          refine lv_icmp_eq (tgt := 74) hx hb dX5_copy_64 (by decide) (fun c64 => ?_) (fun c64 => ?_)
          · obtain ⟨-, n1, hn1, hs1⟩ := hS 0 (by decide)
            obtain ⟨-, n2, hn2, hs2⟩ := hS 3 (by decide)
            refine lv_aload hx hb dX5_copy_74 (lv_at hl 1 rfl) ?_
            refine lv_iload_n hx hb dX5_copy_76 rfl (lv_at hl 4 rfl) ?_
            refine lv_iload hx hb dX5_copy_77 (lv_at hl 7 rfl) ?_
            refine zcVmi (r := zb (0 ≤ fr ∧ 0 ≤ vn ∧ vn ≤ so 0 ∧ fr ≤ so 0 - vn)) (C1 := (zOW x b t ik fd ++ (zTW x (t 0) S l0 ++ (zTW x (t 1) T l1 ++ (zTW x (t 2) K l2 ++ zPW x b tb tq))))) (C2 := (zSH x (b 6) (b 10) (bo 1) (so 1) (nn 1) ++ (zSH x (b 7) (b 11) (bo 2) (so 2) (nn 2) ++ zSH x (b 8) (b 12) (bo 3) (so 3) (nn 3)))) hx hb hml hown hts hl.1 hK hE hA lkX5_242 (c_X1_hasSpan x (b 5) (b 9) (bo 0) (so 0) (nn 0) fr vn) ⟨Nat.le_of_ble_eq_true rfl, Nat.le_of_ble_eq_true rfl⟩ ⟨Nat.zero_le _, Nat.zero_le _⟩ hw 0 0 rfl rfl rfl rfl (Nat.le_of_ble_eq_true rfl) dX5_copy_79 (fun H locs hw => ?_)
            have hw : zHw x A s.heap (zHW x b t S l0 T l1 K l2 ik fd tb tq bo so nn) H locs := hw
            refine lv_if_eq (tgt := 97) hx hb dX5_copy_82 (by decide) (fun c82 => ?_) (fun c82 => ?_)
            · have c82 := zb_0.mp c82
              refine lv_aload_n hx hb dX5_copy_97 rfl (lv_at hl 2 rfl) ?_
              refine lv_ldc (v := (-1000000001)) hx hb hown (hts _ ckX5_51) dX5_copy_98 ?_
              refine zcVwi (r := (-1000000001)) hx hb hml hown hts hl.1 hK hE hA lkX5_52 (c_X5_found x b t S l0 T l1 K l2 ik fd tb tq bo so nn (-1000000001) 0 (by decide) (by decide)) ⟨Nat.le_of_ble_eq_true rfl, Nat.le_of_ble_eq_true rfl⟩ ⟨Nat.zero_le _, Nat.zero_le _⟩ hw 0 3 rfl rfl rfl rfl (Nat.le_of_ble_eq_true rfl) dX5_copy_100 (fun H locs hw => ?_)
              have hw : zHw x A s.heap (zHW x b t S l0 T l1 K l2 ik (upd fd 0 (fd 0 + 1)) tb tq bo so nn) H locs := hw
              exact zFG.iret hx hb hr hlocks hQ hw rfl dX5_copy_103 (by rw [show zm_copy bo so nn fd 0 fr 3 to vn = ((-1000000001), nn, zFd fd 0) from (by unfold zm_copy; rw [if_pos ⟨by decide, by decide⟩, show zc (0 : Int32) = 0 from rfl, show zc (3 : Int32) = 3 from rfl, if_neg (fun h => h.elim c36 c44), if_pos c64, if_neg (fun h => by first | exact c94 ((zspan hn2 hs2).mpr ⟨h.2.1, h.2.2.1, h.2.2.2.2⟩) | exact c82 ((zspan hn1 hs1).mpr ⟨h.1, h.2.2.1, h.2.2.2.1⟩))])]; exact ⟨rfl, rfl⟩)
            · have c82 := zb_n0.mp c82
              refine lv_aload hx hb dX5_copy_85 (lv_at hl 0 rfl) ?_
              refine lv_iload hx hb dX5_copy_87 (lv_at hl 6 rfl) ?_
              refine lv_iload hx hb dX5_copy_89 (lv_at hl 7 rfl) ?_
              refine zcVmi (r := zb (0 ≤ to ∧ 0 ≤ vn ∧ vn ≤ so 3 ∧ to ≤ so 3 - vn)) (C1 := (zOW x b t ik fd ++ (zTW x (t 0) S l0 ++ (zTW x (t 1) T l1 ++ (zTW x (t 2) K l2 ++ (zPW x b tb tq ++ (zSH x (b 5) (b 9) (bo 0) (so 0) (nn 0) ++ (zSH x (b 6) (b 10) (bo 1) (so 1) (nn 1) ++ zSH x (b 7) (b 11) (bo 2) (so 2) (nn 2))))))))) (C2 := []) hx hb hml hown hts hl.1 hK hE hA lkX5_242 (c_X1_hasSpan x (b 8) (b 12) (bo 3) (so 3) (nn 3) to vn) ⟨Nat.le_of_ble_eq_true rfl, Nat.le_of_ble_eq_true rfl⟩ ⟨Nat.zero_le _, Nat.zero_le _⟩ hw 0 0 rfl rfl rfl rfl (Nat.le_of_ble_eq_true rfl) dX5_copy_91 (fun H locs hw => ?_)
              have hw : zHw x A s.heap (zHW x b t S l0 T l1 K l2 ik fd tb tq bo so nn) H locs := hw
              refine lv_if_ne (tgt := 104) hx hb dX5_copy_94 (by decide) (fun c94 => ?_) (fun c94 => ?_)
              · have c94 := zb_n0.mp c94
                have c82h := (zspan hn1 hs1).mp c82
                have c94h := (zspan hn2 hs2).mp c94
                obtain ⟨i1, k1, rfl, rfl, hb1⟩ := zspan_nat hn1 hs1 c82
                obtain ⟨j1, k2, rfl, ek, hb2⟩ := zspan_nat hn2 hs2 c94
                have ek : k1 = k2 := (nI_eq (by omega) (by omega)).mp ek
                subst ek
                refine lv_aload hx hb dX5_copy_104 (lv_at hl 1 rfl) ?_
                refine gfX5_232 hx hb hown hts hK hw 32 rfl rfl dX5_copy_106 ?_
                refine lv_iload_n hx hb dX5_copy_109 rfl (lv_at hl 4 rfl) ?_
                refine lv_aload hx hb dX5_copy_110 (lv_at hl 0 rfl) ?_
                refine gfX5_232 hx hb hown hts hK hw 38 rfl rfl dX5_copy_112 ?_
                refine lv_iload hx hb dX5_copy_115 (lv_at hl 6 rfl) ?_
                refine lv_iload hx hb dX5_copy_117 (lv_at hl 7 rfl) ?_
                refine zcpyL hx hb (hml.trans hl.1.symm) hown hts acX5 hK hw 33 39 i1 j1 k1 rfl rfl (by omega) (by omega) ⟨Nat.le_of_ble_eq_true rfl, Nat.le_of_ble_eq_true rfl⟩ dX5_copy_119 (fun H locs hw => ?_)
                have hw : zHw x A s.heap (zHW x b t S l0 T l1 K l2 ik fd tb tq bo so (zVL nn 3 (zcp (nn 0) (nn 3) i1 j1 k1))) H locs := hw
                refine lv_iload hx hb dX5_copy_122 (lv_at hl 7 rfl) ?_
                exact zFG.iret hx hb hr hlocks hQ hw rfl dX5_copy_124 (by rw [show zm_copy bo so nn fd 0 (nI i1) 3 (nI j1) (nI k1) = (nI k1, zVL nn 3 (zcp (nn 0) (nn 3) i1 j1 k1), fd) from (by unfold zm_copy; rw [if_pos ⟨by decide, by decide⟩, show zc (0 : Int32) = 0 from rfl, show zc (3 : Int32) = 3 from rfl, if_neg (fun h => h.elim c36 c44), if_pos c64, if_pos ⟨c82h.1, c94h.1, c82h.2.1, c82h.2.2, c94h.2.2⟩, zc_nI (show i1 < 2147483648 by omega), zc_nI (show j1 < 2147483648 by omega), zc_nI (show k1 < 2147483648 by omega)])]; exact ⟨rfl, rfl⟩)
              · have c94 := zb_0.mp c94
                refine lv_aload_n hx hb dX5_copy_97 rfl (lv_at hl 2 rfl) ?_
                refine lv_ldc (v := (-1000000001)) hx hb hown (hts _ ckX5_51) dX5_copy_98 ?_
                refine zcVwi (r := (-1000000001)) hx hb hml hown hts hl.1 hK hE hA lkX5_52 (c_X5_found x b t S l0 T l1 K l2 ik fd tb tq bo so nn (-1000000001) 0 (by decide) (by decide)) ⟨Nat.le_of_ble_eq_true rfl, Nat.le_of_ble_eq_true rfl⟩ ⟨Nat.zero_le _, Nat.zero_le _⟩ hw 0 3 rfl rfl rfl rfl (Nat.le_of_ble_eq_true rfl) dX5_copy_100 (fun H locs hw => ?_)
                have hw : zHw x A s.heap (zHW x b t S l0 T l1 K l2 ik (upd fd 0 (fd 0 + 1)) tb tq bo so nn) H locs := hw
                exact zFG.iret hx hb hr hlocks hQ hw rfl dX5_copy_103 (by rw [show zm_copy bo so nn fd 0 fr 3 to vn = ((-1000000001), nn, zFd fd 0) from (by unfold zm_copy; rw [if_pos ⟨by decide, by decide⟩, show zc (0 : Int32) = 0 from rfl, show zc (3 : Int32) = 3 from rfl, if_neg (fun h => h.elim c36 c44), if_pos c64, if_neg (fun h => by first | exact c94 ((zspan hn2 hs2).mpr ⟨h.2.1, h.2.2.1, h.2.2.2.2⟩) | exact c82 ((zspan hn1 hs1).mpr ⟨h.1, h.2.2.1, h.2.2.2.1⟩))])]; exact ⟨rfl, rfl⟩)
          · refine lv_aload_n hx hb dX5_copy_67 rfl (lv_at hl 2 rfl) ?_
            refine lv_ldc (v := (-1000000003)) hx hb hown (hts _ ckX5_123) dX5_copy_68 ?_
            refine zcVwi (r := (-1000000003)) hx hb hml hown hts hl.1 hK hE hA lkX5_52 (c_X5_found x b t S l0 T l1 K l2 ik fd tb tq bo so nn (-1000000003) 2 (by decide) (by decide)) ⟨Nat.le_of_ble_eq_true rfl, Nat.le_of_ble_eq_true rfl⟩ ⟨Nat.zero_le _, Nat.zero_le _⟩ hw 0 3 rfl rfl rfl rfl (Nat.le_of_ble_eq_true rfl) dX5_copy_70 (fun H locs hw => ?_)
            have hw : zHw x A s.heap (zHW x b t S l0 T l1 K l2 ik (upd fd 2 (fd 2 + 1)) tb tq bo so nn) H locs := hw
            exact zFG.iret hx hb hr hlocks hQ hw rfl dX5_copy_73 (by rw [show zm_copy bo so nn fd 0 fr 3 to vn = ((-1000000003), nn, zFd fd 2) from (by unfold zm_copy; rw [if_pos ⟨by decide, by decide⟩, show zc (0 : Int32) = 0 from rfl, show zc (3 : Int32) = 3 from rfl, if_neg (fun h => h.elim c36 c44), if_neg c64])]; exact ⟨rfl, rfl⟩)
        · have c44 := zb_n0.mp c44
          refine lv_aload_n hx hb dX5_copy_47 rfl (lv_at hl 2 rfl) ?_
          refine lv_ldc (v := (-1000000006)) hx hb hown (hts _ ckX5_231) dX5_copy_48 ?_
          refine zcVwi (r := (-1000000006)) hx hb hml hown hts hl.1 hK hE hA lkX5_52 (c_X5_found x b t S l0 T l1 K l2 ik fd tb tq bo so nn (-1000000006) 5 (by decide) (by decide)) ⟨Nat.le_of_ble_eq_true rfl, Nat.le_of_ble_eq_true rfl⟩ ⟨Nat.zero_le _, Nat.zero_le _⟩ hw 0 3 rfl rfl rfl rfl (Nat.le_of_ble_eq_true rfl) dX5_copy_50 (fun H locs hw => ?_)
          have hw : zHw x A s.heap (zHW x b t S l0 T l1 K l2 ik (upd fd 5 (fd 5 + 1)) tb tq bo so nn) H locs := hw
          exact zFG.iret hx hb hr hlocks hQ hw rfl dX5_copy_53 (by rw [show zm_copy bo so nn fd 0 fr 3 to vn = ((-1000000006), nn, zFd fd 5) from (by unfold zm_copy; rw [if_pos ⟨by decide, by decide⟩, show zc (0 : Int32) = 0 from rfl, show zc (3 : Int32) = 3 from rfl, if_pos (by first | exact Or.inr c44 | exact Or.inl c36)])]; exact ⟨rfl, rfl⟩)
    · refine lv_aload_n hx hb dX5_copy_7 rfl (lv_at hl 1 rfl) ?_
      refine lv_iload_n hx hb dX5_copy_8 rfl (lv_at hl 4 rfl) ?_
      refine zcVwa hx hb hml hown hts hl.1 hK hE hA lkX5_219 (c_X5_sheetAt_no x b t S l0 T l1 K l2 ik fd tb tq bo so nn z hnz) ⟨Nat.le_of_ble_eq_true rfl, Nat.le_of_ble_eq_true rfl⟩ ⟨Nat.zero_le _, Nat.zero_le _⟩ hw 0 3 rfl rfl rfl rfl (Nat.le_of_ble_eq_true rfl) dX5_copy_9 (fun H locs hw => ?_)
      have hw : zHw x A s.heap (zHW x b t S l0 T l1 K l2 ik fd tb tq bo so nn) H locs := hw
      refine lv_astoreN (lv' := [(7, Value.null), (6, .ref (b 5)), (0, .ref (b 0)), (1, .int 0), (2, .int fr), (3, .int z), (4, .int to), (5, .int vn)]) hx hb dX5_copy_12 hl (by decide) rfl (fun ls hl => ?_)
      refine lv_aload hx hb dX5_copy_14 (lv_at hl 1 rfl) ?_
      refine lv_ifnull hx hb dX5_copy_16 ?_
      refine lv_aloadN hx hb dX5_copy_19 (lv_at hl 0 rfl) ?_
      refine lv_ifnonnullN hx hb dX5_copy_21 ?_
      refine lv_aload_n hx hb dX5_copy_24 rfl (lv_at hl 2 rfl) ?_
      refine lv_ldc (v := (-1000000001)) hx hb hown (hts _ ckX5_51) dX5_copy_25 ?_
      refine zcVwi (r := (-1000000001)) hx hb hml hown hts hl.1 hK hE hA lkX5_52 (c_X5_found x b t S l0 T l1 K l2 ik fd tb tq bo so nn (-1000000001) 0 (by decide) (by decide)) ⟨Nat.le_of_ble_eq_true rfl, Nat.le_of_ble_eq_true rfl⟩ ⟨Nat.zero_le _, Nat.zero_le _⟩ hw 0 3 rfl rfl rfl rfl (Nat.le_of_ble_eq_true rfl) dX5_copy_27 (fun H locs hw => ?_)
      have hw : zHw x A s.heap (zHW x b t S l0 T l1 K l2 ik (upd fd 0 (fd 0 + 1)) tb tq bo so nn) H locs := hw
      exact zFG.iret hx hb hr hlocks hQ hw rfl dX5_copy_30 (by rw [show zm_copy bo so nn fd 0 fr z to vn = ((-1000000001), nn, zFd fd 0) from (by unfold zm_copy; first | rw [if_neg (fun h => hnz h.2)] | rw [if_neg (fun h => hno h.1)])]; exact ⟨rfl, rfl⟩)
  · refine lv_aload_n hx hb dX5_copy_0 rfl (lv_at hl 0 rfl) ?_
    refine lv_iload_n hx hb dX5_copy_1 rfl (lv_at hl 1 rfl) ?_
    refine zcVwa hx hb hml hown hts hl.1 hK hE hA lkX5_219 (c_X5_sheetAt_1 x b t S l0 T l1 K l2 ik fd tb tq bo so nn) ⟨Nat.le_of_ble_eq_true rfl, Nat.le_of_ble_eq_true rfl⟩ ⟨Nat.zero_le _, Nat.zero_le _⟩ hw 0 3 rfl rfl rfl rfl (Nat.le_of_ble_eq_true rfl) dX5_copy_2 (fun H locs hw => ?_)
    have hw : zHw x A s.heap (zHW x b t S l0 T l1 K l2 ik fd tb tq bo so nn) H locs := hw
    refine lv_astore (lv' := [(6, .ref (b 6)), (0, .ref (b 0)), (1, .int 1), (2, .int fr), (3, .int z), (4, .int to), (5, .int vn)]) hx hb dX5_copy_5 hl (by decide) rfl (fun ls hl => ?_)
    rcases zcase4 z with rfl | rfl | rfl | rfl | hnz
    · refine lv_aload_n hx hb dX5_copy_7 rfl (lv_at hl 1 rfl) ?_
      refine lv_iload_n hx hb dX5_copy_8 rfl (lv_at hl 4 rfl) ?_
      refine zcVwa hx hb hml hown hts hl.1 hK hE hA lkX5_219 (c_X5_sheetAt_0 x b t S l0 T l1 K l2 ik fd tb tq bo so nn) ⟨Nat.le_of_ble_eq_true rfl, Nat.le_of_ble_eq_true rfl⟩ ⟨Nat.zero_le _, Nat.zero_le _⟩ hw 0 3 rfl rfl rfl rfl (Nat.le_of_ble_eq_true rfl) dX5_copy_9 (fun H locs hw => ?_)
      have hw : zHw x A s.heap (zHW x b t S l0 T l1 K l2 ik fd tb tq bo so nn) H locs := hw
      refine lv_astore (lv' := [(7, .ref (b 5)), (6, .ref (b 6)), (0, .ref (b 0)), (1, .int 1), (2, .int fr), (3, .int 0), (4, .int to), (5, .int vn)]) hx hb dX5_copy_12 hl (by decide) rfl (fun ls hl => ?_)
      refine lv_aload hx hb dX5_copy_14 (lv_at hl 1 rfl) ?_
      refine lv_ifnull hx hb dX5_copy_16 ?_
      refine lv_aload hx hb dX5_copy_19 (lv_at hl 0 rfl) ?_
      refine lv_ifnonnull (tgt := 31) hx hb dX5_copy_21 (by decide) ?_
      refine lv_aload hx hb dX5_copy_31 (lv_at hl 1 rfl) ?_
      refine zcVmi (r := zb (bo 1 = 0)) (C1 := (zOW x b t ik fd ++ (zTW x (t 0) S l0 ++ (zTW x (t 1) T l1 ++ (zTW x (t 2) K l2 ++ (zPW x b tb tq ++ zSH x (b 5) (b 9) (bo 0) (so 0) (nn 0))))))) (C2 := (zSH x (b 7) (b 11) (bo 2) (so 2) (nn 2) ++ zSH x (b 8) (b 12) (bo 3) (so 3) (nn 3))) hx hb hml hown hts hl.1 hK hE hA lkX5_228 (c_X1_isMissing x (b 6) (b 10) (bo 1) (so 1) (nn 1) ) ⟨Nat.le_of_ble_eq_true rfl, Nat.le_of_ble_eq_true rfl⟩ ⟨Nat.zero_le _, Nat.zero_le _⟩ hw 0 0 rfl rfl rfl rfl (Nat.le_of_ble_eq_true rfl) dX5_copy_33 (fun H locs hw => ?_)
      have hw : zHw x A s.heap (zHW x b t S l0 T l1 K l2 ik fd tb tq bo so nn) H locs := hw
      refine lv_if_ne (tgt := 47) hx hb dX5_copy_36 (by decide) (fun c36 => ?_) (fun c36 => ?_)
      · have c36 := zb_n0.mp c36
        refine lv_aload_n hx hb dX5_copy_47 rfl (lv_at hl 2 rfl) ?_
        refine lv_ldc (v := (-1000000006)) hx hb hown (hts _ ckX5_231) dX5_copy_48 ?_
        refine zcVwi (r := (-1000000006)) hx hb hml hown hts hl.1 hK hE hA lkX5_52 (c_X5_found x b t S l0 T l1 K l2 ik fd tb tq bo so nn (-1000000006) 5 (by decide) (by decide)) ⟨Nat.le_of_ble_eq_true rfl, Nat.le_of_ble_eq_true rfl⟩ ⟨Nat.zero_le _, Nat.zero_le _⟩ hw 0 3 rfl rfl rfl rfl (Nat.le_of_ble_eq_true rfl) dX5_copy_50 (fun H locs hw => ?_)
        have hw : zHw x A s.heap (zHW x b t S l0 T l1 K l2 ik (upd fd 5 (fd 5 + 1)) tb tq bo so nn) H locs := hw
        exact zFG.iret hx hb hr hlocks hQ hw rfl dX5_copy_53 (by rw [show zm_copy bo so nn fd 1 fr 0 to vn = ((-1000000006), nn, zFd fd 5) from (by unfold zm_copy; rw [if_pos ⟨by decide, by decide⟩, show zc (1 : Int32) = 1 from rfl, show zc (0 : Int32) = 0 from rfl, if_pos (by first | exact Or.inr c44 | exact Or.inl c36)])]; exact ⟨rfl, rfl⟩)
      · have c36 := zb_0.mp c36
        refine lv_aload hx hb dX5_copy_39 (lv_at hl 0 rfl) ?_
        refine zcVmi (r := zb (bo 0 = 0)) (C1 := (zOW x b t ik fd ++ (zTW x (t 0) S l0 ++ (zTW x (t 1) T l1 ++ (zTW x (t 2) K l2 ++ zPW x b tb tq))))) (C2 := (zSH x (b 6) (b 10) (bo 1) (so 1) (nn 1) ++ (zSH x (b 7) (b 11) (bo 2) (so 2) (nn 2) ++ zSH x (b 8) (b 12) (bo 3) (so 3) (nn 3)))) hx hb hml hown hts hl.1 hK hE hA lkX5_228 (c_X1_isMissing x (b 5) (b 9) (bo 0) (so 0) (nn 0) ) ⟨Nat.le_of_ble_eq_true rfl, Nat.le_of_ble_eq_true rfl⟩ ⟨Nat.zero_le _, Nat.zero_le _⟩ hw 0 0 rfl rfl rfl rfl (Nat.le_of_ble_eq_true rfl) dX5_copy_41 (fun H locs hw => ?_)
        have hw : zHw x A s.heap (zHW x b t S l0 T l1 K l2 ik fd tb tq bo so nn) H locs := hw
        refine lv_if_eq (tgt := 54) hx hb dX5_copy_44 (by decide) (fun c44 => ?_) (fun c44 => ?_)
        · have c44 := zb_0.mp c44
          refine lv_aload hx hb dX5_copy_54 (lv_at hl 1 rfl) ?_
          refine gfX5_239 hx hb hown hts hK hw 34 rfl rfl dX5_copy_56 ?_
          refine lv_aload hx hb dX5_copy_59 (lv_at hl 0 rfl) ?_
          refine gfX5_239 hx hb hown hts hK hw 32 rfl rfl dX5_copy_61 ?_
          refine lv_icmp_eq (tgt := 74) hx hb dX5_copy_64 (by decide) (fun c64 => ?_) (fun c64 => ?_)
          · obtain ⟨-, n1, hn1, hs1⟩ := hS 1 (by decide)
            obtain ⟨-, n2, hn2, hs2⟩ := hS 0 (by decide)
            refine lv_aload hx hb dX5_copy_74 (lv_at hl 1 rfl) ?_
            refine lv_iload_n hx hb dX5_copy_76 rfl (lv_at hl 4 rfl) ?_
            refine lv_iload hx hb dX5_copy_77 (lv_at hl 7 rfl) ?_
            refine zcVmi (r := zb (0 ≤ fr ∧ 0 ≤ vn ∧ vn ≤ so 1 ∧ fr ≤ so 1 - vn)) (C1 := (zOW x b t ik fd ++ (zTW x (t 0) S l0 ++ (zTW x (t 1) T l1 ++ (zTW x (t 2) K l2 ++ (zPW x b tb tq ++ zSH x (b 5) (b 9) (bo 0) (so 0) (nn 0))))))) (C2 := (zSH x (b 7) (b 11) (bo 2) (so 2) (nn 2) ++ zSH x (b 8) (b 12) (bo 3) (so 3) (nn 3))) hx hb hml hown hts hl.1 hK hE hA lkX5_242 (c_X1_hasSpan x (b 6) (b 10) (bo 1) (so 1) (nn 1) fr vn) ⟨Nat.le_of_ble_eq_true rfl, Nat.le_of_ble_eq_true rfl⟩ ⟨Nat.zero_le _, Nat.zero_le _⟩ hw 0 0 rfl rfl rfl rfl (Nat.le_of_ble_eq_true rfl) dX5_copy_79 (fun H locs hw => ?_)
            have hw : zHw x A s.heap (zHW x b t S l0 T l1 K l2 ik fd tb tq bo so nn) H locs := hw
            refine lv_if_eq (tgt := 97) hx hb dX5_copy_82 (by decide) (fun c82 => ?_) (fun c82 => ?_)
            · have c82 := zb_0.mp c82
              refine lv_aload_n hx hb dX5_copy_97 rfl (lv_at hl 2 rfl) ?_
              refine lv_ldc (v := (-1000000001)) hx hb hown (hts _ ckX5_51) dX5_copy_98 ?_
              refine zcVwi (r := (-1000000001)) hx hb hml hown hts hl.1 hK hE hA lkX5_52 (c_X5_found x b t S l0 T l1 K l2 ik fd tb tq bo so nn (-1000000001) 0 (by decide) (by decide)) ⟨Nat.le_of_ble_eq_true rfl, Nat.le_of_ble_eq_true rfl⟩ ⟨Nat.zero_le _, Nat.zero_le _⟩ hw 0 3 rfl rfl rfl rfl (Nat.le_of_ble_eq_true rfl) dX5_copy_100 (fun H locs hw => ?_)
              have hw : zHw x A s.heap (zHW x b t S l0 T l1 K l2 ik (upd fd 0 (fd 0 + 1)) tb tq bo so nn) H locs := hw
              exact zFG.iret hx hb hr hlocks hQ hw rfl dX5_copy_103 (by rw [show zm_copy bo so nn fd 1 fr 0 to vn = ((-1000000001), nn, zFd fd 0) from (by unfold zm_copy; rw [if_pos ⟨by decide, by decide⟩, show zc (1 : Int32) = 1 from rfl, show zc (0 : Int32) = 0 from rfl, if_neg (fun h => h.elim c36 c44), if_pos c64, if_neg (fun h => by first | exact c94 ((zspan hn2 hs2).mpr ⟨h.2.1, h.2.2.1, h.2.2.2.2⟩) | exact c82 ((zspan hn1 hs1).mpr ⟨h.1, h.2.2.1, h.2.2.2.1⟩))])]; exact ⟨rfl, rfl⟩)
            · have c82 := zb_n0.mp c82
              refine lv_aload hx hb dX5_copy_85 (lv_at hl 0 rfl) ?_
              refine lv_iload hx hb dX5_copy_87 (lv_at hl 6 rfl) ?_
              refine lv_iload hx hb dX5_copy_89 (lv_at hl 7 rfl) ?_
              refine zcVmi (r := zb (0 ≤ to ∧ 0 ≤ vn ∧ vn ≤ so 0 ∧ to ≤ so 0 - vn)) (C1 := (zOW x b t ik fd ++ (zTW x (t 0) S l0 ++ (zTW x (t 1) T l1 ++ (zTW x (t 2) K l2 ++ zPW x b tb tq))))) (C2 := (zSH x (b 6) (b 10) (bo 1) (so 1) (nn 1) ++ (zSH x (b 7) (b 11) (bo 2) (so 2) (nn 2) ++ zSH x (b 8) (b 12) (bo 3) (so 3) (nn 3)))) hx hb hml hown hts hl.1 hK hE hA lkX5_242 (c_X1_hasSpan x (b 5) (b 9) (bo 0) (so 0) (nn 0) to vn) ⟨Nat.le_of_ble_eq_true rfl, Nat.le_of_ble_eq_true rfl⟩ ⟨Nat.zero_le _, Nat.zero_le _⟩ hw 0 0 rfl rfl rfl rfl (Nat.le_of_ble_eq_true rfl) dX5_copy_91 (fun H locs hw => ?_)
              have hw : zHw x A s.heap (zHW x b t S l0 T l1 K l2 ik fd tb tq bo so nn) H locs := hw
              refine lv_if_ne (tgt := 104) hx hb dX5_copy_94 (by decide) (fun c94 => ?_) (fun c94 => ?_)
              · have c94 := zb_n0.mp c94
                have c82h := (zspan hn1 hs1).mp c82
                have c94h := (zspan hn2 hs2).mp c94
                obtain ⟨i1, k1, rfl, rfl, hb1⟩ := zspan_nat hn1 hs1 c82
                obtain ⟨j1, k2, rfl, ek, hb2⟩ := zspan_nat hn2 hs2 c94
                have ek : k1 = k2 := (nI_eq (by omega) (by omega)).mp ek
                subst ek
                refine lv_aload hx hb dX5_copy_104 (lv_at hl 1 rfl) ?_
                refine gfX5_232 hx hb hown hts hK hw 34 rfl rfl dX5_copy_106 ?_
                refine lv_iload_n hx hb dX5_copy_109 rfl (lv_at hl 4 rfl) ?_
                refine lv_aload hx hb dX5_copy_110 (lv_at hl 0 rfl) ?_
                refine gfX5_232 hx hb hown hts hK hw 32 rfl rfl dX5_copy_112 ?_
                refine lv_iload hx hb dX5_copy_115 (lv_at hl 6 rfl) ?_
                refine lv_iload hx hb dX5_copy_117 (lv_at hl 7 rfl) ?_
                refine zcpyL hx hb (hml.trans hl.1.symm) hown hts acX5 hK hw 35 33 i1 j1 k1 rfl rfl (by omega) (by omega) ⟨Nat.le_of_ble_eq_true rfl, Nat.le_of_ble_eq_true rfl⟩ dX5_copy_119 (fun H locs hw => ?_)
                have hw : zHw x A s.heap (zHW x b t S l0 T l1 K l2 ik fd tb tq bo so (zVL nn 0 (zcp (nn 1) (nn 0) i1 j1 k1))) H locs := hw
                refine lv_iload hx hb dX5_copy_122 (lv_at hl 7 rfl) ?_
                exact zFG.iret hx hb hr hlocks hQ hw rfl dX5_copy_124 (by rw [show zm_copy bo so nn fd 1 (nI i1) 0 (nI j1) (nI k1) = (nI k1, zVL nn 0 (zcp (nn 1) (nn 0) i1 j1 k1), fd) from (by unfold zm_copy; rw [if_pos ⟨by decide, by decide⟩, show zc (1 : Int32) = 1 from rfl, show zc (0 : Int32) = 0 from rfl, if_neg (fun h => h.elim c36 c44), if_pos c64, if_pos ⟨c82h.1, c94h.1, c82h.2.1, c82h.2.2, c94h.2.2⟩, zc_nI (show i1 < 2147483648 by omega), zc_nI (show j1 < 2147483648 by omega), zc_nI (show k1 < 2147483648 by omega)])]; exact ⟨rfl, rfl⟩)
              · have c94 := zb_0.mp c94
                refine lv_aload_n hx hb dX5_copy_97 rfl (lv_at hl 2 rfl) ?_
                refine lv_ldc (v := (-1000000001)) hx hb hown (hts _ ckX5_51) dX5_copy_98 ?_
                refine zcVwi (r := (-1000000001)) hx hb hml hown hts hl.1 hK hE hA lkX5_52 (c_X5_found x b t S l0 T l1 K l2 ik fd tb tq bo so nn (-1000000001) 0 (by decide) (by decide)) ⟨Nat.le_of_ble_eq_true rfl, Nat.le_of_ble_eq_true rfl⟩ ⟨Nat.zero_le _, Nat.zero_le _⟩ hw 0 3 rfl rfl rfl rfl (Nat.le_of_ble_eq_true rfl) dX5_copy_100 (fun H locs hw => ?_)
                have hw : zHw x A s.heap (zHW x b t S l0 T l1 K l2 ik (upd fd 0 (fd 0 + 1)) tb tq bo so nn) H locs := hw
                exact zFG.iret hx hb hr hlocks hQ hw rfl dX5_copy_103 (by rw [show zm_copy bo so nn fd 1 fr 0 to vn = ((-1000000001), nn, zFd fd 0) from (by unfold zm_copy; rw [if_pos ⟨by decide, by decide⟩, show zc (1 : Int32) = 1 from rfl, show zc (0 : Int32) = 0 from rfl, if_neg (fun h => h.elim c36 c44), if_pos c64, if_neg (fun h => by first | exact c94 ((zspan hn2 hs2).mpr ⟨h.2.1, h.2.2.1, h.2.2.2.2⟩) | exact c82 ((zspan hn1 hs1).mpr ⟨h.1, h.2.2.1, h.2.2.2.1⟩))])]; exact ⟨rfl, rfl⟩)
          · refine lv_aload_n hx hb dX5_copy_67 rfl (lv_at hl 2 rfl) ?_
            refine lv_ldc (v := (-1000000003)) hx hb hown (hts _ ckX5_123) dX5_copy_68 ?_
            refine zcVwi (r := (-1000000003)) hx hb hml hown hts hl.1 hK hE hA lkX5_52 (c_X5_found x b t S l0 T l1 K l2 ik fd tb tq bo so nn (-1000000003) 2 (by decide) (by decide)) ⟨Nat.le_of_ble_eq_true rfl, Nat.le_of_ble_eq_true rfl⟩ ⟨Nat.zero_le _, Nat.zero_le _⟩ hw 0 3 rfl rfl rfl rfl (Nat.le_of_ble_eq_true rfl) dX5_copy_70 (fun H locs hw => ?_)
            have hw : zHw x A s.heap (zHW x b t S l0 T l1 K l2 ik (upd fd 2 (fd 2 + 1)) tb tq bo so nn) H locs := hw
            exact zFG.iret hx hb hr hlocks hQ hw rfl dX5_copy_73 (by rw [show zm_copy bo so nn fd 1 fr 0 to vn = ((-1000000003), nn, zFd fd 2) from (by unfold zm_copy; rw [if_pos ⟨by decide, by decide⟩, show zc (1 : Int32) = 1 from rfl, show zc (0 : Int32) = 0 from rfl, if_neg (fun h => h.elim c36 c44), if_neg c64])]; exact ⟨rfl, rfl⟩)
        · have c44 := zb_n0.mp c44
          refine lv_aload_n hx hb dX5_copy_47 rfl (lv_at hl 2 rfl) ?_
          refine lv_ldc (v := (-1000000006)) hx hb hown (hts _ ckX5_231) dX5_copy_48 ?_
          refine zcVwi (r := (-1000000006)) hx hb hml hown hts hl.1 hK hE hA lkX5_52 (c_X5_found x b t S l0 T l1 K l2 ik fd tb tq bo so nn (-1000000006) 5 (by decide) (by decide)) ⟨Nat.le_of_ble_eq_true rfl, Nat.le_of_ble_eq_true rfl⟩ ⟨Nat.zero_le _, Nat.zero_le _⟩ hw 0 3 rfl rfl rfl rfl (Nat.le_of_ble_eq_true rfl) dX5_copy_50 (fun H locs hw => ?_)
          have hw : zHw x A s.heap (zHW x b t S l0 T l1 K l2 ik (upd fd 5 (fd 5 + 1)) tb tq bo so nn) H locs := hw
          exact zFG.iret hx hb hr hlocks hQ hw rfl dX5_copy_53 (by rw [show zm_copy bo so nn fd 1 fr 0 to vn = ((-1000000006), nn, zFd fd 5) from (by unfold zm_copy; rw [if_pos ⟨by decide, by decide⟩, show zc (1 : Int32) = 1 from rfl, show zc (0 : Int32) = 0 from rfl, if_pos (by first | exact Or.inr c44 | exact Or.inl c36)])]; exact ⟨rfl, rfl⟩)
    · refine lv_aload_n hx hb dX5_copy_7 rfl (lv_at hl 1 rfl) ?_
      refine lv_iload_n hx hb dX5_copy_8 rfl (lv_at hl 4 rfl) ?_
      refine zcVwa hx hb hml hown hts hl.1 hK hE hA lkX5_219 (c_X5_sheetAt_1 x b t S l0 T l1 K l2 ik fd tb tq bo so nn) ⟨Nat.le_of_ble_eq_true rfl, Nat.le_of_ble_eq_true rfl⟩ ⟨Nat.zero_le _, Nat.zero_le _⟩ hw 0 3 rfl rfl rfl rfl (Nat.le_of_ble_eq_true rfl) dX5_copy_9 (fun H locs hw => ?_)
      have hw : zHw x A s.heap (zHW x b t S l0 T l1 K l2 ik fd tb tq bo so nn) H locs := hw
      refine lv_astore (lv' := [(7, .ref (b 6)), (6, .ref (b 6)), (0, .ref (b 0)), (1, .int 1), (2, .int fr), (3, .int 1), (4, .int to), (5, .int vn)]) hx hb dX5_copy_12 hl (by decide) rfl (fun ls hl => ?_)
      refine lv_aload hx hb dX5_copy_14 (lv_at hl 1 rfl) ?_
      refine lv_ifnull hx hb dX5_copy_16 ?_
      refine lv_aload hx hb dX5_copy_19 (lv_at hl 0 rfl) ?_
      refine lv_ifnonnull (tgt := 31) hx hb dX5_copy_21 (by decide) ?_
      refine lv_aload hx hb dX5_copy_31 (lv_at hl 1 rfl) ?_
      refine zcVmi (r := zb (bo 1 = 0)) (C1 := (zOW x b t ik fd ++ (zTW x (t 0) S l0 ++ (zTW x (t 1) T l1 ++ (zTW x (t 2) K l2 ++ (zPW x b tb tq ++ zSH x (b 5) (b 9) (bo 0) (so 0) (nn 0))))))) (C2 := (zSH x (b 7) (b 11) (bo 2) (so 2) (nn 2) ++ zSH x (b 8) (b 12) (bo 3) (so 3) (nn 3))) hx hb hml hown hts hl.1 hK hE hA lkX5_228 (c_X1_isMissing x (b 6) (b 10) (bo 1) (so 1) (nn 1) ) ⟨Nat.le_of_ble_eq_true rfl, Nat.le_of_ble_eq_true rfl⟩ ⟨Nat.zero_le _, Nat.zero_le _⟩ hw 0 0 rfl rfl rfl rfl (Nat.le_of_ble_eq_true rfl) dX5_copy_33 (fun H locs hw => ?_)
      have hw : zHw x A s.heap (zHW x b t S l0 T l1 K l2 ik fd tb tq bo so nn) H locs := hw
      refine lv_if_ne (tgt := 47) hx hb dX5_copy_36 (by decide) (fun c36 => ?_) (fun c36 => ?_)
      · have c36 := zb_n0.mp c36
        refine lv_aload_n hx hb dX5_copy_47 rfl (lv_at hl 2 rfl) ?_
        refine lv_ldc (v := (-1000000006)) hx hb hown (hts _ ckX5_231) dX5_copy_48 ?_
        refine zcVwi (r := (-1000000006)) hx hb hml hown hts hl.1 hK hE hA lkX5_52 (c_X5_found x b t S l0 T l1 K l2 ik fd tb tq bo so nn (-1000000006) 5 (by decide) (by decide)) ⟨Nat.le_of_ble_eq_true rfl, Nat.le_of_ble_eq_true rfl⟩ ⟨Nat.zero_le _, Nat.zero_le _⟩ hw 0 3 rfl rfl rfl rfl (Nat.le_of_ble_eq_true rfl) dX5_copy_50 (fun H locs hw => ?_)
        have hw : zHw x A s.heap (zHW x b t S l0 T l1 K l2 ik (upd fd 5 (fd 5 + 1)) tb tq bo so nn) H locs := hw
        exact zFG.iret hx hb hr hlocks hQ hw rfl dX5_copy_53 (by rw [show zm_copy bo so nn fd 1 fr 1 to vn = ((-1000000006), nn, zFd fd 5) from (by unfold zm_copy; rw [if_pos ⟨by decide, by decide⟩, show zc (1 : Int32) = 1 from rfl, if_pos (by first | exact Or.inr c44 | exact Or.inl c36)])]; exact ⟨rfl, rfl⟩)
      · have c36 := zb_0.mp c36
        refine lv_aload hx hb dX5_copy_39 (lv_at hl 0 rfl) ?_
        refine zcVmi (r := zb (bo 1 = 0)) (C1 := (zOW x b t ik fd ++ (zTW x (t 0) S l0 ++ (zTW x (t 1) T l1 ++ (zTW x (t 2) K l2 ++ (zPW x b tb tq ++ zSH x (b 5) (b 9) (bo 0) (so 0) (nn 0))))))) (C2 := (zSH x (b 7) (b 11) (bo 2) (so 2) (nn 2) ++ zSH x (b 8) (b 12) (bo 3) (so 3) (nn 3))) hx hb hml hown hts hl.1 hK hE hA lkX5_228 (c_X1_isMissing x (b 6) (b 10) (bo 1) (so 1) (nn 1) ) ⟨Nat.le_of_ble_eq_true rfl, Nat.le_of_ble_eq_true rfl⟩ ⟨Nat.zero_le _, Nat.zero_le _⟩ hw 0 0 rfl rfl rfl rfl (Nat.le_of_ble_eq_true rfl) dX5_copy_41 (fun H locs hw => ?_)
        have hw : zHw x A s.heap (zHW x b t S l0 T l1 K l2 ik fd tb tq bo so nn) H locs := hw
        refine lv_if_eq (tgt := 54) hx hb dX5_copy_44 (by decide) (fun c44 => ?_) (fun c44 => absurd (zb_0.mpr c36) c44)
        refine lv_aload hx hb dX5_copy_54 (lv_at hl 1 rfl) ?_
        refine gfX5_239 hx hb hown hts hK hw 34 rfl rfl dX5_copy_56 ?_
        refine lv_aload hx hb dX5_copy_59 (lv_at hl 0 rfl) ?_
        refine gfX5_239 hx hb hown hts hK hw 34 rfl rfl dX5_copy_61 ?_
        refine lv_icmp_eq (tgt := 74) hx hb dX5_copy_64 (by decide) (fun c64 => ?_) (fun c64 => ?_)
        · obtain ⟨-, n1, hn1, hs1⟩ := hS 1 (by decide)
          obtain ⟨-, n2, hn2, hs2⟩ := hS 1 (by decide)
          refine lv_aload hx hb dX5_copy_74 (lv_at hl 1 rfl) ?_
          refine lv_iload_n hx hb dX5_copy_76 rfl (lv_at hl 4 rfl) ?_
          refine lv_iload hx hb dX5_copy_77 (lv_at hl 7 rfl) ?_
          refine zcVmi (r := zb (0 ≤ fr ∧ 0 ≤ vn ∧ vn ≤ so 1 ∧ fr ≤ so 1 - vn)) (C1 := (zOW x b t ik fd ++ (zTW x (t 0) S l0 ++ (zTW x (t 1) T l1 ++ (zTW x (t 2) K l2 ++ (zPW x b tb tq ++ zSH x (b 5) (b 9) (bo 0) (so 0) (nn 0))))))) (C2 := (zSH x (b 7) (b 11) (bo 2) (so 2) (nn 2) ++ zSH x (b 8) (b 12) (bo 3) (so 3) (nn 3))) hx hb hml hown hts hl.1 hK hE hA lkX5_242 (c_X1_hasSpan x (b 6) (b 10) (bo 1) (so 1) (nn 1) fr vn) ⟨Nat.le_of_ble_eq_true rfl, Nat.le_of_ble_eq_true rfl⟩ ⟨Nat.zero_le _, Nat.zero_le _⟩ hw 0 0 rfl rfl rfl rfl (Nat.le_of_ble_eq_true rfl) dX5_copy_79 (fun H locs hw => ?_)
          have hw : zHw x A s.heap (zHW x b t S l0 T l1 K l2 ik fd tb tq bo so nn) H locs := hw
          refine lv_if_eq (tgt := 97) hx hb dX5_copy_82 (by decide) (fun c82 => ?_) (fun c82 => ?_)
          · have c82 := zb_0.mp c82
            refine lv_aload_n hx hb dX5_copy_97 rfl (lv_at hl 2 rfl) ?_
            refine lv_ldc (v := (-1000000001)) hx hb hown (hts _ ckX5_51) dX5_copy_98 ?_
            refine zcVwi (r := (-1000000001)) hx hb hml hown hts hl.1 hK hE hA lkX5_52 (c_X5_found x b t S l0 T l1 K l2 ik fd tb tq bo so nn (-1000000001) 0 (by decide) (by decide)) ⟨Nat.le_of_ble_eq_true rfl, Nat.le_of_ble_eq_true rfl⟩ ⟨Nat.zero_le _, Nat.zero_le _⟩ hw 0 3 rfl rfl rfl rfl (Nat.le_of_ble_eq_true rfl) dX5_copy_100 (fun H locs hw => ?_)
            have hw : zHw x A s.heap (zHW x b t S l0 T l1 K l2 ik (upd fd 0 (fd 0 + 1)) tb tq bo so nn) H locs := hw
            exact zFG.iret hx hb hr hlocks hQ hw rfl dX5_copy_103 (by rw [show zm_copy bo so nn fd 1 fr 1 to vn = ((-1000000001), nn, zFd fd 0) from (by unfold zm_copy; rw [if_pos ⟨by decide, by decide⟩, show zc (1 : Int32) = 1 from rfl, if_neg (fun h => h.elim c36 c36), if_pos c64, if_neg (fun h => by first | exact c94 ((zspan hn2 hs2).mpr ⟨h.2.1, h.2.2.1, h.2.2.2.2⟩) | exact c82 ((zspan hn1 hs1).mpr ⟨h.1, h.2.2.1, h.2.2.2.1⟩))])]; exact ⟨rfl, rfl⟩)
          · have c82 := zb_n0.mp c82
            refine lv_aload hx hb dX5_copy_85 (lv_at hl 0 rfl) ?_
            refine lv_iload hx hb dX5_copy_87 (lv_at hl 6 rfl) ?_
            refine lv_iload hx hb dX5_copy_89 (lv_at hl 7 rfl) ?_
            refine zcVmi (r := zb (0 ≤ to ∧ 0 ≤ vn ∧ vn ≤ so 1 ∧ to ≤ so 1 - vn)) (C1 := (zOW x b t ik fd ++ (zTW x (t 0) S l0 ++ (zTW x (t 1) T l1 ++ (zTW x (t 2) K l2 ++ (zPW x b tb tq ++ zSH x (b 5) (b 9) (bo 0) (so 0) (nn 0))))))) (C2 := (zSH x (b 7) (b 11) (bo 2) (so 2) (nn 2) ++ zSH x (b 8) (b 12) (bo 3) (so 3) (nn 3))) hx hb hml hown hts hl.1 hK hE hA lkX5_242 (c_X1_hasSpan x (b 6) (b 10) (bo 1) (so 1) (nn 1) to vn) ⟨Nat.le_of_ble_eq_true rfl, Nat.le_of_ble_eq_true rfl⟩ ⟨Nat.zero_le _, Nat.zero_le _⟩ hw 0 0 rfl rfl rfl rfl (Nat.le_of_ble_eq_true rfl) dX5_copy_91 (fun H locs hw => ?_)
            have hw : zHw x A s.heap (zHW x b t S l0 T l1 K l2 ik fd tb tq bo so nn) H locs := hw
            refine lv_if_ne (tgt := 104) hx hb dX5_copy_94 (by decide) (fun c94 => ?_) (fun c94 => ?_)
            · have c94 := zb_n0.mp c94
              have c82h := (zspan hn1 hs1).mp c82
              have c94h := (zspan hn2 hs2).mp c94
              obtain ⟨i1, k1, rfl, rfl, hb1⟩ := zspan_nat hn1 hs1 c82
              obtain ⟨j1, k2, rfl, ek, hb2⟩ := zspan_nat hn2 hs2 c94
              have ek : k1 = k2 := (nI_eq (by omega) (by omega)).mp ek
              subst ek
              refine lv_aload hx hb dX5_copy_104 (lv_at hl 1 rfl) ?_
              refine gfX5_232 hx hb hown hts hK hw 34 rfl rfl dX5_copy_106 ?_
              refine lv_iload_n hx hb dX5_copy_109 rfl (lv_at hl 4 rfl) ?_
              refine lv_aload hx hb dX5_copy_110 (lv_at hl 0 rfl) ?_
              refine gfX5_232 hx hb hown hts hK hw 34 rfl rfl dX5_copy_112 ?_
              refine lv_iload hx hb dX5_copy_115 (lv_at hl 6 rfl) ?_
              refine lv_iload hx hb dX5_copy_117 (lv_at hl 7 rfl) ?_
              refine zcpyL hx hb (hml.trans hl.1.symm) hown hts acX5 hK hw 35 35 i1 j1 k1 rfl rfl (by omega) (by omega) ⟨Nat.le_of_ble_eq_true rfl, Nat.le_of_ble_eq_true rfl⟩ dX5_copy_119 (fun H locs hw => ?_)
              have hw : zHw x A s.heap (zHW x b t S l0 T l1 K l2 ik fd tb tq bo so (zVL nn 1 (zcp (nn 1) (nn 1) i1 j1 k1))) H locs := hw
              refine lv_iload hx hb dX5_copy_122 (lv_at hl 7 rfl) ?_
              exact zFG.iret hx hb hr hlocks hQ hw rfl dX5_copy_124 (by rw [show zm_copy bo so nn fd 1 (nI i1) 1 (nI j1) (nI k1) = (nI k1, zVL nn 1 (zcp (nn 1) (nn 1) i1 j1 k1), fd) from (by unfold zm_copy; rw [if_pos ⟨by decide, by decide⟩, show zc (1 : Int32) = 1 from rfl, if_neg (fun h => h.elim c36 c36), if_pos c64, if_pos ⟨c82h.1, c94h.1, c82h.2.1, c82h.2.2, c94h.2.2⟩, zc_nI (show i1 < 2147483648 by omega), zc_nI (show j1 < 2147483648 by omega), zc_nI (show k1 < 2147483648 by omega)])]; exact ⟨rfl, rfl⟩)
            · have c94 := zb_0.mp c94
              refine lv_aload_n hx hb dX5_copy_97 rfl (lv_at hl 2 rfl) ?_
              refine lv_ldc (v := (-1000000001)) hx hb hown (hts _ ckX5_51) dX5_copy_98 ?_
              refine zcVwi (r := (-1000000001)) hx hb hml hown hts hl.1 hK hE hA lkX5_52 (c_X5_found x b t S l0 T l1 K l2 ik fd tb tq bo so nn (-1000000001) 0 (by decide) (by decide)) ⟨Nat.le_of_ble_eq_true rfl, Nat.le_of_ble_eq_true rfl⟩ ⟨Nat.zero_le _, Nat.zero_le _⟩ hw 0 3 rfl rfl rfl rfl (Nat.le_of_ble_eq_true rfl) dX5_copy_100 (fun H locs hw => ?_)
              have hw : zHw x A s.heap (zHW x b t S l0 T l1 K l2 ik (upd fd 0 (fd 0 + 1)) tb tq bo so nn) H locs := hw
              exact zFG.iret hx hb hr hlocks hQ hw rfl dX5_copy_103 (by rw [show zm_copy bo so nn fd 1 fr 1 to vn = ((-1000000001), nn, zFd fd 0) from (by unfold zm_copy; rw [if_pos ⟨by decide, by decide⟩, show zc (1 : Int32) = 1 from rfl, if_neg (fun h => h.elim c36 c36), if_pos c64, if_neg (fun h => by first | exact c94 ((zspan hn2 hs2).mpr ⟨h.2.1, h.2.2.1, h.2.2.2.2⟩) | exact c82 ((zspan hn1 hs1).mpr ⟨h.1, h.2.2.1, h.2.2.2.1⟩))])]; exact ⟨rfl, rfl⟩)
        · refine lv_aload_n hx hb dX5_copy_67 rfl (lv_at hl 2 rfl) ?_
          refine lv_ldc (v := (-1000000003)) hx hb hown (hts _ ckX5_123) dX5_copy_68 ?_
          refine zcVwi (r := (-1000000003)) hx hb hml hown hts hl.1 hK hE hA lkX5_52 (c_X5_found x b t S l0 T l1 K l2 ik fd tb tq bo so nn (-1000000003) 2 (by decide) (by decide)) ⟨Nat.le_of_ble_eq_true rfl, Nat.le_of_ble_eq_true rfl⟩ ⟨Nat.zero_le _, Nat.zero_le _⟩ hw 0 3 rfl rfl rfl rfl (Nat.le_of_ble_eq_true rfl) dX5_copy_70 (fun H locs hw => ?_)
          have hw : zHw x A s.heap (zHW x b t S l0 T l1 K l2 ik (upd fd 2 (fd 2 + 1)) tb tq bo so nn) H locs := hw
          exact zFG.iret hx hb hr hlocks hQ hw rfl dX5_copy_73 (by rw [show zm_copy bo so nn fd 1 fr 1 to vn = ((-1000000003), nn, zFd fd 2) from (by unfold zm_copy; rw [if_pos ⟨by decide, by decide⟩, show zc (1 : Int32) = 1 from rfl, if_neg (fun h => h.elim c36 c36), if_neg c64])]; exact ⟨rfl, rfl⟩)
    · refine lv_aload_n hx hb dX5_copy_7 rfl (lv_at hl 1 rfl) ?_
      refine lv_iload_n hx hb dX5_copy_8 rfl (lv_at hl 4 rfl) ?_
      refine zcVwa hx hb hml hown hts hl.1 hK hE hA lkX5_219 (c_X5_sheetAt_2 x b t S l0 T l1 K l2 ik fd tb tq bo so nn) ⟨Nat.le_of_ble_eq_true rfl, Nat.le_of_ble_eq_true rfl⟩ ⟨Nat.zero_le _, Nat.zero_le _⟩ hw 0 3 rfl rfl rfl rfl (Nat.le_of_ble_eq_true rfl) dX5_copy_9 (fun H locs hw => ?_)
      have hw : zHw x A s.heap (zHW x b t S l0 T l1 K l2 ik fd tb tq bo so nn) H locs := hw
      refine lv_astore (lv' := [(7, .ref (b 7)), (6, .ref (b 6)), (0, .ref (b 0)), (1, .int 1), (2, .int fr), (3, .int 2), (4, .int to), (5, .int vn)]) hx hb dX5_copy_12 hl (by decide) rfl (fun ls hl => ?_)
      refine lv_aload hx hb dX5_copy_14 (lv_at hl 1 rfl) ?_
      refine lv_ifnull hx hb dX5_copy_16 ?_
      refine lv_aload hx hb dX5_copy_19 (lv_at hl 0 rfl) ?_
      refine lv_ifnonnull (tgt := 31) hx hb dX5_copy_21 (by decide) ?_
      refine lv_aload hx hb dX5_copy_31 (lv_at hl 1 rfl) ?_
      refine zcVmi (r := zb (bo 1 = 0)) (C1 := (zOW x b t ik fd ++ (zTW x (t 0) S l0 ++ (zTW x (t 1) T l1 ++ (zTW x (t 2) K l2 ++ (zPW x b tb tq ++ zSH x (b 5) (b 9) (bo 0) (so 0) (nn 0))))))) (C2 := (zSH x (b 7) (b 11) (bo 2) (so 2) (nn 2) ++ zSH x (b 8) (b 12) (bo 3) (so 3) (nn 3))) hx hb hml hown hts hl.1 hK hE hA lkX5_228 (c_X1_isMissing x (b 6) (b 10) (bo 1) (so 1) (nn 1) ) ⟨Nat.le_of_ble_eq_true rfl, Nat.le_of_ble_eq_true rfl⟩ ⟨Nat.zero_le _, Nat.zero_le _⟩ hw 0 0 rfl rfl rfl rfl (Nat.le_of_ble_eq_true rfl) dX5_copy_33 (fun H locs hw => ?_)
      have hw : zHw x A s.heap (zHW x b t S l0 T l1 K l2 ik fd tb tq bo so nn) H locs := hw
      refine lv_if_ne (tgt := 47) hx hb dX5_copy_36 (by decide) (fun c36 => ?_) (fun c36 => ?_)
      · have c36 := zb_n0.mp c36
        refine lv_aload_n hx hb dX5_copy_47 rfl (lv_at hl 2 rfl) ?_
        refine lv_ldc (v := (-1000000006)) hx hb hown (hts _ ckX5_231) dX5_copy_48 ?_
        refine zcVwi (r := (-1000000006)) hx hb hml hown hts hl.1 hK hE hA lkX5_52 (c_X5_found x b t S l0 T l1 K l2 ik fd tb tq bo so nn (-1000000006) 5 (by decide) (by decide)) ⟨Nat.le_of_ble_eq_true rfl, Nat.le_of_ble_eq_true rfl⟩ ⟨Nat.zero_le _, Nat.zero_le _⟩ hw 0 3 rfl rfl rfl rfl (Nat.le_of_ble_eq_true rfl) dX5_copy_50 (fun H locs hw => ?_)
        have hw : zHw x A s.heap (zHW x b t S l0 T l1 K l2 ik (upd fd 5 (fd 5 + 1)) tb tq bo so nn) H locs := hw
        exact zFG.iret hx hb hr hlocks hQ hw rfl dX5_copy_53 (by rw [show zm_copy bo so nn fd 1 fr 2 to vn = ((-1000000006), nn, zFd fd 5) from (by unfold zm_copy; rw [if_pos ⟨by decide, by decide⟩, show zc (1 : Int32) = 1 from rfl, show zc (2 : Int32) = 2 from rfl, if_pos (by first | exact Or.inr c44 | exact Or.inl c36)])]; exact ⟨rfl, rfl⟩)
      · have c36 := zb_0.mp c36
        refine lv_aload hx hb dX5_copy_39 (lv_at hl 0 rfl) ?_
        refine zcVmi (r := zb (bo 2 = 0)) (C1 := (zOW x b t ik fd ++ (zTW x (t 0) S l0 ++ (zTW x (t 1) T l1 ++ (zTW x (t 2) K l2 ++ (zPW x b tb tq ++ (zSH x (b 5) (b 9) (bo 0) (so 0) (nn 0) ++ zSH x (b 6) (b 10) (bo 1) (so 1) (nn 1)))))))) (C2 := (zSH x (b 8) (b 12) (bo 3) (so 3) (nn 3))) hx hb hml hown hts hl.1 hK hE hA lkX5_228 (c_X1_isMissing x (b 7) (b 11) (bo 2) (so 2) (nn 2) ) ⟨Nat.le_of_ble_eq_true rfl, Nat.le_of_ble_eq_true rfl⟩ ⟨Nat.zero_le _, Nat.zero_le _⟩ hw 0 0 rfl rfl rfl rfl (Nat.le_of_ble_eq_true rfl) dX5_copy_41 (fun H locs hw => ?_)
        have hw : zHw x A s.heap (zHW x b t S l0 T l1 K l2 ik fd tb tq bo so nn) H locs := hw
        refine lv_if_eq (tgt := 54) hx hb dX5_copy_44 (by decide) (fun c44 => ?_) (fun c44 => ?_)
        · have c44 := zb_0.mp c44
          refine lv_aload hx hb dX5_copy_54 (lv_at hl 1 rfl) ?_
          refine gfX5_239 hx hb hown hts hK hw 34 rfl rfl dX5_copy_56 ?_
          refine lv_aload hx hb dX5_copy_59 (lv_at hl 0 rfl) ?_
          refine gfX5_239 hx hb hown hts hK hw 36 rfl rfl dX5_copy_61 ?_
          refine lv_icmp_eq (tgt := 74) hx hb dX5_copy_64 (by decide) (fun c64 => ?_) (fun c64 => ?_)
          · obtain ⟨-, n1, hn1, hs1⟩ := hS 1 (by decide)
            obtain ⟨-, n2, hn2, hs2⟩ := hS 2 (by decide)
            refine lv_aload hx hb dX5_copy_74 (lv_at hl 1 rfl) ?_
            refine lv_iload_n hx hb dX5_copy_76 rfl (lv_at hl 4 rfl) ?_
            refine lv_iload hx hb dX5_copy_77 (lv_at hl 7 rfl) ?_
            refine zcVmi (r := zb (0 ≤ fr ∧ 0 ≤ vn ∧ vn ≤ so 1 ∧ fr ≤ so 1 - vn)) (C1 := (zOW x b t ik fd ++ (zTW x (t 0) S l0 ++ (zTW x (t 1) T l1 ++ (zTW x (t 2) K l2 ++ (zPW x b tb tq ++ zSH x (b 5) (b 9) (bo 0) (so 0) (nn 0))))))) (C2 := (zSH x (b 7) (b 11) (bo 2) (so 2) (nn 2) ++ zSH x (b 8) (b 12) (bo 3) (so 3) (nn 3))) hx hb hml hown hts hl.1 hK hE hA lkX5_242 (c_X1_hasSpan x (b 6) (b 10) (bo 1) (so 1) (nn 1) fr vn) ⟨Nat.le_of_ble_eq_true rfl, Nat.le_of_ble_eq_true rfl⟩ ⟨Nat.zero_le _, Nat.zero_le _⟩ hw 0 0 rfl rfl rfl rfl (Nat.le_of_ble_eq_true rfl) dX5_copy_79 (fun H locs hw => ?_)
            have hw : zHw x A s.heap (zHW x b t S l0 T l1 K l2 ik fd tb tq bo so nn) H locs := hw
            refine lv_if_eq (tgt := 97) hx hb dX5_copy_82 (by decide) (fun c82 => ?_) (fun c82 => ?_)
            · have c82 := zb_0.mp c82
              refine lv_aload_n hx hb dX5_copy_97 rfl (lv_at hl 2 rfl) ?_
              refine lv_ldc (v := (-1000000001)) hx hb hown (hts _ ckX5_51) dX5_copy_98 ?_
              refine zcVwi (r := (-1000000001)) hx hb hml hown hts hl.1 hK hE hA lkX5_52 (c_X5_found x b t S l0 T l1 K l2 ik fd tb tq bo so nn (-1000000001) 0 (by decide) (by decide)) ⟨Nat.le_of_ble_eq_true rfl, Nat.le_of_ble_eq_true rfl⟩ ⟨Nat.zero_le _, Nat.zero_le _⟩ hw 0 3 rfl rfl rfl rfl (Nat.le_of_ble_eq_true rfl) dX5_copy_100 (fun H locs hw => ?_)
              have hw : zHw x A s.heap (zHW x b t S l0 T l1 K l2 ik (upd fd 0 (fd 0 + 1)) tb tq bo so nn) H locs := hw
              exact zFG.iret hx hb hr hlocks hQ hw rfl dX5_copy_103 (by rw [show zm_copy bo so nn fd 1 fr 2 to vn = ((-1000000001), nn, zFd fd 0) from (by unfold zm_copy; rw [if_pos ⟨by decide, by decide⟩, show zc (1 : Int32) = 1 from rfl, show zc (2 : Int32) = 2 from rfl, if_neg (fun h => h.elim c36 c44), if_pos c64, if_neg (fun h => by first | exact c94 ((zspan hn2 hs2).mpr ⟨h.2.1, h.2.2.1, h.2.2.2.2⟩) | exact c82 ((zspan hn1 hs1).mpr ⟨h.1, h.2.2.1, h.2.2.2.1⟩))])]; exact ⟨rfl, rfl⟩)
            · have c82 := zb_n0.mp c82
              refine lv_aload hx hb dX5_copy_85 (lv_at hl 0 rfl) ?_
              refine lv_iload hx hb dX5_copy_87 (lv_at hl 6 rfl) ?_
              refine lv_iload hx hb dX5_copy_89 (lv_at hl 7 rfl) ?_
              refine zcVmi (r := zb (0 ≤ to ∧ 0 ≤ vn ∧ vn ≤ so 2 ∧ to ≤ so 2 - vn)) (C1 := (zOW x b t ik fd ++ (zTW x (t 0) S l0 ++ (zTW x (t 1) T l1 ++ (zTW x (t 2) K l2 ++ (zPW x b tb tq ++ (zSH x (b 5) (b 9) (bo 0) (so 0) (nn 0) ++ zSH x (b 6) (b 10) (bo 1) (so 1) (nn 1)))))))) (C2 := (zSH x (b 8) (b 12) (bo 3) (so 3) (nn 3))) hx hb hml hown hts hl.1 hK hE hA lkX5_242 (c_X1_hasSpan x (b 7) (b 11) (bo 2) (so 2) (nn 2) to vn) ⟨Nat.le_of_ble_eq_true rfl, Nat.le_of_ble_eq_true rfl⟩ ⟨Nat.zero_le _, Nat.zero_le _⟩ hw 0 0 rfl rfl rfl rfl (Nat.le_of_ble_eq_true rfl) dX5_copy_91 (fun H locs hw => ?_)
              have hw : zHw x A s.heap (zHW x b t S l0 T l1 K l2 ik fd tb tq bo so nn) H locs := hw
              refine lv_if_ne (tgt := 104) hx hb dX5_copy_94 (by decide) (fun c94 => ?_) (fun c94 => ?_)
              · have c94 := zb_n0.mp c94
                have c82h := (zspan hn1 hs1).mp c82
                have c94h := (zspan hn2 hs2).mp c94
                obtain ⟨i1, k1, rfl, rfl, hb1⟩ := zspan_nat hn1 hs1 c82
                obtain ⟨j1, k2, rfl, ek, hb2⟩ := zspan_nat hn2 hs2 c94
                have ek : k1 = k2 := (nI_eq (by omega) (by omega)).mp ek
                subst ek
                refine lv_aload hx hb dX5_copy_104 (lv_at hl 1 rfl) ?_
                refine gfX5_232 hx hb hown hts hK hw 34 rfl rfl dX5_copy_106 ?_
                refine lv_iload_n hx hb dX5_copy_109 rfl (lv_at hl 4 rfl) ?_
                refine lv_aload hx hb dX5_copy_110 (lv_at hl 0 rfl) ?_
                refine gfX5_232 hx hb hown hts hK hw 36 rfl rfl dX5_copy_112 ?_
                refine lv_iload hx hb dX5_copy_115 (lv_at hl 6 rfl) ?_
                refine lv_iload hx hb dX5_copy_117 (lv_at hl 7 rfl) ?_
                refine zcpyL hx hb (hml.trans hl.1.symm) hown hts acX5 hK hw 35 37 i1 j1 k1 rfl rfl (by omega) (by omega) ⟨Nat.le_of_ble_eq_true rfl, Nat.le_of_ble_eq_true rfl⟩ dX5_copy_119 (fun H locs hw => ?_)
                have hw : zHw x A s.heap (zHW x b t S l0 T l1 K l2 ik fd tb tq bo so (zVL nn 2 (zcp (nn 1) (nn 2) i1 j1 k1))) H locs := hw
                refine lv_iload hx hb dX5_copy_122 (lv_at hl 7 rfl) ?_
                exact zFG.iret hx hb hr hlocks hQ hw rfl dX5_copy_124 (by rw [show zm_copy bo so nn fd 1 (nI i1) 2 (nI j1) (nI k1) = (nI k1, zVL nn 2 (zcp (nn 1) (nn 2) i1 j1 k1), fd) from (by unfold zm_copy; rw [if_pos ⟨by decide, by decide⟩, show zc (1 : Int32) = 1 from rfl, show zc (2 : Int32) = 2 from rfl, if_neg (fun h => h.elim c36 c44), if_pos c64, if_pos ⟨c82h.1, c94h.1, c82h.2.1, c82h.2.2, c94h.2.2⟩, zc_nI (show i1 < 2147483648 by omega), zc_nI (show j1 < 2147483648 by omega), zc_nI (show k1 < 2147483648 by omega)])]; exact ⟨rfl, rfl⟩)
              · have c94 := zb_0.mp c94
                refine lv_aload_n hx hb dX5_copy_97 rfl (lv_at hl 2 rfl) ?_
                refine lv_ldc (v := (-1000000001)) hx hb hown (hts _ ckX5_51) dX5_copy_98 ?_
                refine zcVwi (r := (-1000000001)) hx hb hml hown hts hl.1 hK hE hA lkX5_52 (c_X5_found x b t S l0 T l1 K l2 ik fd tb tq bo so nn (-1000000001) 0 (by decide) (by decide)) ⟨Nat.le_of_ble_eq_true rfl, Nat.le_of_ble_eq_true rfl⟩ ⟨Nat.zero_le _, Nat.zero_le _⟩ hw 0 3 rfl rfl rfl rfl (Nat.le_of_ble_eq_true rfl) dX5_copy_100 (fun H locs hw => ?_)
                have hw : zHw x A s.heap (zHW x b t S l0 T l1 K l2 ik (upd fd 0 (fd 0 + 1)) tb tq bo so nn) H locs := hw
                exact zFG.iret hx hb hr hlocks hQ hw rfl dX5_copy_103 (by rw [show zm_copy bo so nn fd 1 fr 2 to vn = ((-1000000001), nn, zFd fd 0) from (by unfold zm_copy; rw [if_pos ⟨by decide, by decide⟩, show zc (1 : Int32) = 1 from rfl, show zc (2 : Int32) = 2 from rfl, if_neg (fun h => h.elim c36 c44), if_pos c64, if_neg (fun h => by first | exact c94 ((zspan hn2 hs2).mpr ⟨h.2.1, h.2.2.1, h.2.2.2.2⟩) | exact c82 ((zspan hn1 hs1).mpr ⟨h.1, h.2.2.1, h.2.2.2.1⟩))])]; exact ⟨rfl, rfl⟩)
          · refine lv_aload_n hx hb dX5_copy_67 rfl (lv_at hl 2 rfl) ?_
            refine lv_ldc (v := (-1000000003)) hx hb hown (hts _ ckX5_123) dX5_copy_68 ?_
            refine zcVwi (r := (-1000000003)) hx hb hml hown hts hl.1 hK hE hA lkX5_52 (c_X5_found x b t S l0 T l1 K l2 ik fd tb tq bo so nn (-1000000003) 2 (by decide) (by decide)) ⟨Nat.le_of_ble_eq_true rfl, Nat.le_of_ble_eq_true rfl⟩ ⟨Nat.zero_le _, Nat.zero_le _⟩ hw 0 3 rfl rfl rfl rfl (Nat.le_of_ble_eq_true rfl) dX5_copy_70 (fun H locs hw => ?_)
            have hw : zHw x A s.heap (zHW x b t S l0 T l1 K l2 ik (upd fd 2 (fd 2 + 1)) tb tq bo so nn) H locs := hw
            exact zFG.iret hx hb hr hlocks hQ hw rfl dX5_copy_73 (by rw [show zm_copy bo so nn fd 1 fr 2 to vn = ((-1000000003), nn, zFd fd 2) from (by unfold zm_copy; rw [if_pos ⟨by decide, by decide⟩, show zc (1 : Int32) = 1 from rfl, show zc (2 : Int32) = 2 from rfl, if_neg (fun h => h.elim c36 c44), if_neg c64])]; exact ⟨rfl, rfl⟩)
        · have c44 := zb_n0.mp c44
          refine lv_aload_n hx hb dX5_copy_47 rfl (lv_at hl 2 rfl) ?_
          refine lv_ldc (v := (-1000000006)) hx hb hown (hts _ ckX5_231) dX5_copy_48 ?_
          refine zcVwi (r := (-1000000006)) hx hb hml hown hts hl.1 hK hE hA lkX5_52 (c_X5_found x b t S l0 T l1 K l2 ik fd tb tq bo so nn (-1000000006) 5 (by decide) (by decide)) ⟨Nat.le_of_ble_eq_true rfl, Nat.le_of_ble_eq_true rfl⟩ ⟨Nat.zero_le _, Nat.zero_le _⟩ hw 0 3 rfl rfl rfl rfl (Nat.le_of_ble_eq_true rfl) dX5_copy_50 (fun H locs hw => ?_)
          have hw : zHw x A s.heap (zHW x b t S l0 T l1 K l2 ik (upd fd 5 (fd 5 + 1)) tb tq bo so nn) H locs := hw
          exact zFG.iret hx hb hr hlocks hQ hw rfl dX5_copy_53 (by rw [show zm_copy bo so nn fd 1 fr 2 to vn = ((-1000000006), nn, zFd fd 5) from (by unfold zm_copy; rw [if_pos ⟨by decide, by decide⟩, show zc (1 : Int32) = 1 from rfl, show zc (2 : Int32) = 2 from rfl, if_pos (by first | exact Or.inr c44 | exact Or.inl c36)])]; exact ⟨rfl, rfl⟩)
    · refine lv_aload_n hx hb dX5_copy_7 rfl (lv_at hl 1 rfl) ?_
      refine lv_iload_n hx hb dX5_copy_8 rfl (lv_at hl 4 rfl) ?_
      refine zcVwa hx hb hml hown hts hl.1 hK hE hA lkX5_219 (c_X5_sheetAt_3 x b t S l0 T l1 K l2 ik fd tb tq bo so nn) ⟨Nat.le_of_ble_eq_true rfl, Nat.le_of_ble_eq_true rfl⟩ ⟨Nat.zero_le _, Nat.zero_le _⟩ hw 0 3 rfl rfl rfl rfl (Nat.le_of_ble_eq_true rfl) dX5_copy_9 (fun H locs hw => ?_)
      have hw : zHw x A s.heap (zHW x b t S l0 T l1 K l2 ik fd tb tq bo so nn) H locs := hw
      refine lv_astore (lv' := [(7, .ref (b 8)), (6, .ref (b 6)), (0, .ref (b 0)), (1, .int 1), (2, .int fr), (3, .int 3), (4, .int to), (5, .int vn)]) hx hb dX5_copy_12 hl (by decide) rfl (fun ls hl => ?_)
      refine lv_aload hx hb dX5_copy_14 (lv_at hl 1 rfl) ?_
      refine lv_ifnull hx hb dX5_copy_16 ?_
      refine lv_aload hx hb dX5_copy_19 (lv_at hl 0 rfl) ?_
      refine lv_ifnonnull (tgt := 31) hx hb dX5_copy_21 (by decide) ?_
      refine lv_aload hx hb dX5_copy_31 (lv_at hl 1 rfl) ?_
      refine zcVmi (r := zb (bo 1 = 0)) (C1 := (zOW x b t ik fd ++ (zTW x (t 0) S l0 ++ (zTW x (t 1) T l1 ++ (zTW x (t 2) K l2 ++ (zPW x b tb tq ++ zSH x (b 5) (b 9) (bo 0) (so 0) (nn 0))))))) (C2 := (zSH x (b 7) (b 11) (bo 2) (so 2) (nn 2) ++ zSH x (b 8) (b 12) (bo 3) (so 3) (nn 3))) hx hb hml hown hts hl.1 hK hE hA lkX5_228 (c_X1_isMissing x (b 6) (b 10) (bo 1) (so 1) (nn 1) ) ⟨Nat.le_of_ble_eq_true rfl, Nat.le_of_ble_eq_true rfl⟩ ⟨Nat.zero_le _, Nat.zero_le _⟩ hw 0 0 rfl rfl rfl rfl (Nat.le_of_ble_eq_true rfl) dX5_copy_33 (fun H locs hw => ?_)
      have hw : zHw x A s.heap (zHW x b t S l0 T l1 K l2 ik fd tb tq bo so nn) H locs := hw
      refine lv_if_ne (tgt := 47) hx hb dX5_copy_36 (by decide) (fun c36 => ?_) (fun c36 => ?_)
      · have c36 := zb_n0.mp c36
        refine lv_aload_n hx hb dX5_copy_47 rfl (lv_at hl 2 rfl) ?_
        refine lv_ldc (v := (-1000000006)) hx hb hown (hts _ ckX5_231) dX5_copy_48 ?_
        refine zcVwi (r := (-1000000006)) hx hb hml hown hts hl.1 hK hE hA lkX5_52 (c_X5_found x b t S l0 T l1 K l2 ik fd tb tq bo so nn (-1000000006) 5 (by decide) (by decide)) ⟨Nat.le_of_ble_eq_true rfl, Nat.le_of_ble_eq_true rfl⟩ ⟨Nat.zero_le _, Nat.zero_le _⟩ hw 0 3 rfl rfl rfl rfl (Nat.le_of_ble_eq_true rfl) dX5_copy_50 (fun H locs hw => ?_)
        have hw : zHw x A s.heap (zHW x b t S l0 T l1 K l2 ik (upd fd 5 (fd 5 + 1)) tb tq bo so nn) H locs := hw
        exact zFG.iret hx hb hr hlocks hQ hw rfl dX5_copy_53 (by rw [show zm_copy bo so nn fd 1 fr 3 to vn = ((-1000000006), nn, zFd fd 5) from (by unfold zm_copy; rw [if_pos ⟨by decide, by decide⟩, show zc (1 : Int32) = 1 from rfl, show zc (3 : Int32) = 3 from rfl, if_pos (by first | exact Or.inr c44 | exact Or.inl c36)])]; exact ⟨rfl, rfl⟩)
      · have c36 := zb_0.mp c36
        refine lv_aload hx hb dX5_copy_39 (lv_at hl 0 rfl) ?_
        refine zcVmi (r := zb (bo 3 = 0)) (C1 := (zOW x b t ik fd ++ (zTW x (t 0) S l0 ++ (zTW x (t 1) T l1 ++ (zTW x (t 2) K l2 ++ (zPW x b tb tq ++ (zSH x (b 5) (b 9) (bo 0) (so 0) (nn 0) ++ (zSH x (b 6) (b 10) (bo 1) (so 1) (nn 1) ++ zSH x (b 7) (b 11) (bo 2) (so 2) (nn 2))))))))) (C2 := []) hx hb hml hown hts hl.1 hK hE hA lkX5_228 (c_X1_isMissing x (b 8) (b 12) (bo 3) (so 3) (nn 3) ) ⟨Nat.le_of_ble_eq_true rfl, Nat.le_of_ble_eq_true rfl⟩ ⟨Nat.zero_le _, Nat.zero_le _⟩ hw 0 0 rfl rfl rfl rfl (Nat.le_of_ble_eq_true rfl) dX5_copy_41 (fun H locs hw => ?_)
        have hw : zHw x A s.heap (zHW x b t S l0 T l1 K l2 ik fd tb tq bo so nn) H locs := hw
        refine lv_if_eq (tgt := 54) hx hb dX5_copy_44 (by decide) (fun c44 => ?_) (fun c44 => ?_)
        · have c44 := zb_0.mp c44
          refine lv_aload hx hb dX5_copy_54 (lv_at hl 1 rfl) ?_
          refine gfX5_239 hx hb hown hts hK hw 34 rfl rfl dX5_copy_56 ?_
          refine lv_aload hx hb dX5_copy_59 (lv_at hl 0 rfl) ?_
          refine gfX5_239 hx hb hown hts hK hw 38 rfl rfl dX5_copy_61 ?_
          refine lv_icmp_eq (tgt := 74) hx hb dX5_copy_64 (by decide) (fun c64 => ?_) (fun c64 => ?_)
          · obtain ⟨-, n1, hn1, hs1⟩ := hS 1 (by decide)
            obtain ⟨-, n2, hn2, hs2⟩ := hS 3 (by decide)
            refine lv_aload hx hb dX5_copy_74 (lv_at hl 1 rfl) ?_
            refine lv_iload_n hx hb dX5_copy_76 rfl (lv_at hl 4 rfl) ?_
            refine lv_iload hx hb dX5_copy_77 (lv_at hl 7 rfl) ?_
            refine zcVmi (r := zb (0 ≤ fr ∧ 0 ≤ vn ∧ vn ≤ so 1 ∧ fr ≤ so 1 - vn)) (C1 := (zOW x b t ik fd ++ (zTW x (t 0) S l0 ++ (zTW x (t 1) T l1 ++ (zTW x (t 2) K l2 ++ (zPW x b tb tq ++ zSH x (b 5) (b 9) (bo 0) (so 0) (nn 0))))))) (C2 := (zSH x (b 7) (b 11) (bo 2) (so 2) (nn 2) ++ zSH x (b 8) (b 12) (bo 3) (so 3) (nn 3))) hx hb hml hown hts hl.1 hK hE hA lkX5_242 (c_X1_hasSpan x (b 6) (b 10) (bo 1) (so 1) (nn 1) fr vn) ⟨Nat.le_of_ble_eq_true rfl, Nat.le_of_ble_eq_true rfl⟩ ⟨Nat.zero_le _, Nat.zero_le _⟩ hw 0 0 rfl rfl rfl rfl (Nat.le_of_ble_eq_true rfl) dX5_copy_79 (fun H locs hw => ?_)
            have hw : zHw x A s.heap (zHW x b t S l0 T l1 K l2 ik fd tb tq bo so nn) H locs := hw
            refine lv_if_eq (tgt := 97) hx hb dX5_copy_82 (by decide) (fun c82 => ?_) (fun c82 => ?_)
            · have c82 := zb_0.mp c82
              refine lv_aload_n hx hb dX5_copy_97 rfl (lv_at hl 2 rfl) ?_
              refine lv_ldc (v := (-1000000001)) hx hb hown (hts _ ckX5_51) dX5_copy_98 ?_
              refine zcVwi (r := (-1000000001)) hx hb hml hown hts hl.1 hK hE hA lkX5_52 (c_X5_found x b t S l0 T l1 K l2 ik fd tb tq bo so nn (-1000000001) 0 (by decide) (by decide)) ⟨Nat.le_of_ble_eq_true rfl, Nat.le_of_ble_eq_true rfl⟩ ⟨Nat.zero_le _, Nat.zero_le _⟩ hw 0 3 rfl rfl rfl rfl (Nat.le_of_ble_eq_true rfl) dX5_copy_100 (fun H locs hw => ?_)
              have hw : zHw x A s.heap (zHW x b t S l0 T l1 K l2 ik (upd fd 0 (fd 0 + 1)) tb tq bo so nn) H locs := hw
              exact zFG.iret hx hb hr hlocks hQ hw rfl dX5_copy_103 (by rw [show zm_copy bo so nn fd 1 fr 3 to vn = ((-1000000001), nn, zFd fd 0) from (by unfold zm_copy; rw [if_pos ⟨by decide, by decide⟩, show zc (1 : Int32) = 1 from rfl, show zc (3 : Int32) = 3 from rfl, if_neg (fun h => h.elim c36 c44), if_pos c64, if_neg (fun h => by first | exact c94 ((zspan hn2 hs2).mpr ⟨h.2.1, h.2.2.1, h.2.2.2.2⟩) | exact c82 ((zspan hn1 hs1).mpr ⟨h.1, h.2.2.1, h.2.2.2.1⟩))])]; exact ⟨rfl, rfl⟩)
            · have c82 := zb_n0.mp c82
              refine lv_aload hx hb dX5_copy_85 (lv_at hl 0 rfl) ?_
              refine lv_iload hx hb dX5_copy_87 (lv_at hl 6 rfl) ?_
              refine lv_iload hx hb dX5_copy_89 (lv_at hl 7 rfl) ?_
              refine zcVmi (r := zb (0 ≤ to ∧ 0 ≤ vn ∧ vn ≤ so 3 ∧ to ≤ so 3 - vn)) (C1 := (zOW x b t ik fd ++ (zTW x (t 0) S l0 ++ (zTW x (t 1) T l1 ++ (zTW x (t 2) K l2 ++ (zPW x b tb tq ++ (zSH x (b 5) (b 9) (bo 0) (so 0) (nn 0) ++ (zSH x (b 6) (b 10) (bo 1) (so 1) (nn 1) ++ zSH x (b 7) (b 11) (bo 2) (so 2) (nn 2))))))))) (C2 := []) hx hb hml hown hts hl.1 hK hE hA lkX5_242 (c_X1_hasSpan x (b 8) (b 12) (bo 3) (so 3) (nn 3) to vn) ⟨Nat.le_of_ble_eq_true rfl, Nat.le_of_ble_eq_true rfl⟩ ⟨Nat.zero_le _, Nat.zero_le _⟩ hw 0 0 rfl rfl rfl rfl (Nat.le_of_ble_eq_true rfl) dX5_copy_91 (fun H locs hw => ?_)
              have hw : zHw x A s.heap (zHW x b t S l0 T l1 K l2 ik fd tb tq bo so nn) H locs := hw
              refine lv_if_ne (tgt := 104) hx hb dX5_copy_94 (by decide) (fun c94 => ?_) (fun c94 => ?_)
              · have c94 := zb_n0.mp c94
                have c82h := (zspan hn1 hs1).mp c82
                have c94h := (zspan hn2 hs2).mp c94
                obtain ⟨i1, k1, rfl, rfl, hb1⟩ := zspan_nat hn1 hs1 c82
                obtain ⟨j1, k2, rfl, ek, hb2⟩ := zspan_nat hn2 hs2 c94
                have ek : k1 = k2 := (nI_eq (by omega) (by omega)).mp ek
                subst ek
                refine lv_aload hx hb dX5_copy_104 (lv_at hl 1 rfl) ?_
                refine gfX5_232 hx hb hown hts hK hw 34 rfl rfl dX5_copy_106 ?_
                refine lv_iload_n hx hb dX5_copy_109 rfl (lv_at hl 4 rfl) ?_
                refine lv_aload hx hb dX5_copy_110 (lv_at hl 0 rfl) ?_
                refine gfX5_232 hx hb hown hts hK hw 38 rfl rfl dX5_copy_112 ?_
                refine lv_iload hx hb dX5_copy_115 (lv_at hl 6 rfl) ?_
                refine lv_iload hx hb dX5_copy_117 (lv_at hl 7 rfl) ?_
                refine zcpyL hx hb (hml.trans hl.1.symm) hown hts acX5 hK hw 35 39 i1 j1 k1 rfl rfl (by omega) (by omega) ⟨Nat.le_of_ble_eq_true rfl, Nat.le_of_ble_eq_true rfl⟩ dX5_copy_119 (fun H locs hw => ?_)
                have hw : zHw x A s.heap (zHW x b t S l0 T l1 K l2 ik fd tb tq bo so (zVL nn 3 (zcp (nn 1) (nn 3) i1 j1 k1))) H locs := hw
                refine lv_iload hx hb dX5_copy_122 (lv_at hl 7 rfl) ?_
                exact zFG.iret hx hb hr hlocks hQ hw rfl dX5_copy_124 (by rw [show zm_copy bo so nn fd 1 (nI i1) 3 (nI j1) (nI k1) = (nI k1, zVL nn 3 (zcp (nn 1) (nn 3) i1 j1 k1), fd) from (by unfold zm_copy; rw [if_pos ⟨by decide, by decide⟩, show zc (1 : Int32) = 1 from rfl, show zc (3 : Int32) = 3 from rfl, if_neg (fun h => h.elim c36 c44), if_pos c64, if_pos ⟨c82h.1, c94h.1, c82h.2.1, c82h.2.2, c94h.2.2⟩, zc_nI (show i1 < 2147483648 by omega), zc_nI (show j1 < 2147483648 by omega), zc_nI (show k1 < 2147483648 by omega)])]; exact ⟨rfl, rfl⟩)
              · have c94 := zb_0.mp c94
                refine lv_aload_n hx hb dX5_copy_97 rfl (lv_at hl 2 rfl) ?_
                refine lv_ldc (v := (-1000000001)) hx hb hown (hts _ ckX5_51) dX5_copy_98 ?_
                refine zcVwi (r := (-1000000001)) hx hb hml hown hts hl.1 hK hE hA lkX5_52 (c_X5_found x b t S l0 T l1 K l2 ik fd tb tq bo so nn (-1000000001) 0 (by decide) (by decide)) ⟨Nat.le_of_ble_eq_true rfl, Nat.le_of_ble_eq_true rfl⟩ ⟨Nat.zero_le _, Nat.zero_le _⟩ hw 0 3 rfl rfl rfl rfl (Nat.le_of_ble_eq_true rfl) dX5_copy_100 (fun H locs hw => ?_)
                have hw : zHw x A s.heap (zHW x b t S l0 T l1 K l2 ik (upd fd 0 (fd 0 + 1)) tb tq bo so nn) H locs := hw
                exact zFG.iret hx hb hr hlocks hQ hw rfl dX5_copy_103 (by rw [show zm_copy bo so nn fd 1 fr 3 to vn = ((-1000000001), nn, zFd fd 0) from (by unfold zm_copy; rw [if_pos ⟨by decide, by decide⟩, show zc (1 : Int32) = 1 from rfl, show zc (3 : Int32) = 3 from rfl, if_neg (fun h => h.elim c36 c44), if_pos c64, if_neg (fun h => by first | exact c94 ((zspan hn2 hs2).mpr ⟨h.2.1, h.2.2.1, h.2.2.2.2⟩) | exact c82 ((zspan hn1 hs1).mpr ⟨h.1, h.2.2.1, h.2.2.2.1⟩))])]; exact ⟨rfl, rfl⟩)
          · refine lv_aload_n hx hb dX5_copy_67 rfl (lv_at hl 2 rfl) ?_
            refine lv_ldc (v := (-1000000003)) hx hb hown (hts _ ckX5_123) dX5_copy_68 ?_
            refine zcVwi (r := (-1000000003)) hx hb hml hown hts hl.1 hK hE hA lkX5_52 (c_X5_found x b t S l0 T l1 K l2 ik fd tb tq bo so nn (-1000000003) 2 (by decide) (by decide)) ⟨Nat.le_of_ble_eq_true rfl, Nat.le_of_ble_eq_true rfl⟩ ⟨Nat.zero_le _, Nat.zero_le _⟩ hw 0 3 rfl rfl rfl rfl (Nat.le_of_ble_eq_true rfl) dX5_copy_70 (fun H locs hw => ?_)
            have hw : zHw x A s.heap (zHW x b t S l0 T l1 K l2 ik (upd fd 2 (fd 2 + 1)) tb tq bo so nn) H locs := hw
            exact zFG.iret hx hb hr hlocks hQ hw rfl dX5_copy_73 (by rw [show zm_copy bo so nn fd 1 fr 3 to vn = ((-1000000003), nn, zFd fd 2) from (by unfold zm_copy; rw [if_pos ⟨by decide, by decide⟩, show zc (1 : Int32) = 1 from rfl, show zc (3 : Int32) = 3 from rfl, if_neg (fun h => h.elim c36 c44), if_neg c64])]; exact ⟨rfl, rfl⟩)
        · have c44 := zb_n0.mp c44
          refine lv_aload_n hx hb dX5_copy_47 rfl (lv_at hl 2 rfl) ?_
          refine lv_ldc (v := (-1000000006)) hx hb hown (hts _ ckX5_231) dX5_copy_48 ?_
          refine zcVwi (r := (-1000000006)) hx hb hml hown hts hl.1 hK hE hA lkX5_52 (c_X5_found x b t S l0 T l1 K l2 ik fd tb tq bo so nn (-1000000006) 5 (by decide) (by decide)) ⟨Nat.le_of_ble_eq_true rfl, Nat.le_of_ble_eq_true rfl⟩ ⟨Nat.zero_le _, Nat.zero_le _⟩ hw 0 3 rfl rfl rfl rfl (Nat.le_of_ble_eq_true rfl) dX5_copy_50 (fun H locs hw => ?_)
          have hw : zHw x A s.heap (zHW x b t S l0 T l1 K l2 ik (upd fd 5 (fd 5 + 1)) tb tq bo so nn) H locs := hw
          exact zFG.iret hx hb hr hlocks hQ hw rfl dX5_copy_53 (by rw [show zm_copy bo so nn fd 1 fr 3 to vn = ((-1000000006), nn, zFd fd 5) from (by unfold zm_copy; rw [if_pos ⟨by decide, by decide⟩, show zc (1 : Int32) = 1 from rfl, show zc (3 : Int32) = 3 from rfl, if_pos (by first | exact Or.inr c44 | exact Or.inl c36)])]; exact ⟨rfl, rfl⟩)
    · refine lv_aload_n hx hb dX5_copy_7 rfl (lv_at hl 1 rfl) ?_
      refine lv_iload_n hx hb dX5_copy_8 rfl (lv_at hl 4 rfl) ?_
      refine zcVwa hx hb hml hown hts hl.1 hK hE hA lkX5_219 (c_X5_sheetAt_no x b t S l0 T l1 K l2 ik fd tb tq bo so nn z hnz) ⟨Nat.le_of_ble_eq_true rfl, Nat.le_of_ble_eq_true rfl⟩ ⟨Nat.zero_le _, Nat.zero_le _⟩ hw 0 3 rfl rfl rfl rfl (Nat.le_of_ble_eq_true rfl) dX5_copy_9 (fun H locs hw => ?_)
      have hw : zHw x A s.heap (zHW x b t S l0 T l1 K l2 ik fd tb tq bo so nn) H locs := hw
      refine lv_astoreN (lv' := [(7, Value.null), (6, .ref (b 6)), (0, .ref (b 0)), (1, .int 1), (2, .int fr), (3, .int z), (4, .int to), (5, .int vn)]) hx hb dX5_copy_12 hl (by decide) rfl (fun ls hl => ?_)
      refine lv_aload hx hb dX5_copy_14 (lv_at hl 1 rfl) ?_
      refine lv_ifnull hx hb dX5_copy_16 ?_
      refine lv_aloadN hx hb dX5_copy_19 (lv_at hl 0 rfl) ?_
      refine lv_ifnonnullN hx hb dX5_copy_21 ?_
      refine lv_aload_n hx hb dX5_copy_24 rfl (lv_at hl 2 rfl) ?_
      refine lv_ldc (v := (-1000000001)) hx hb hown (hts _ ckX5_51) dX5_copy_25 ?_
      refine zcVwi (r := (-1000000001)) hx hb hml hown hts hl.1 hK hE hA lkX5_52 (c_X5_found x b t S l0 T l1 K l2 ik fd tb tq bo so nn (-1000000001) 0 (by decide) (by decide)) ⟨Nat.le_of_ble_eq_true rfl, Nat.le_of_ble_eq_true rfl⟩ ⟨Nat.zero_le _, Nat.zero_le _⟩ hw 0 3 rfl rfl rfl rfl (Nat.le_of_ble_eq_true rfl) dX5_copy_27 (fun H locs hw => ?_)
      have hw : zHw x A s.heap (zHW x b t S l0 T l1 K l2 ik (upd fd 0 (fd 0 + 1)) tb tq bo so nn) H locs := hw
      exact zFG.iret hx hb hr hlocks hQ hw rfl dX5_copy_30 (by rw [show zm_copy bo so nn fd 1 fr z to vn = ((-1000000001), nn, zFd fd 0) from (by unfold zm_copy; first | rw [if_neg (fun h => hnz h.2)] | rw [if_neg (fun h => hno h.1)])]; exact ⟨rfl, rfl⟩)
  · refine lv_aload_n hx hb dX5_copy_0 rfl (lv_at hl 0 rfl) ?_
    refine lv_iload_n hx hb dX5_copy_1 rfl (lv_at hl 1 rfl) ?_
    refine zcVwa hx hb hml hown hts hl.1 hK hE hA lkX5_219 (c_X5_sheetAt_2 x b t S l0 T l1 K l2 ik fd tb tq bo so nn) ⟨Nat.le_of_ble_eq_true rfl, Nat.le_of_ble_eq_true rfl⟩ ⟨Nat.zero_le _, Nat.zero_le _⟩ hw 0 3 rfl rfl rfl rfl (Nat.le_of_ble_eq_true rfl) dX5_copy_2 (fun H locs hw => ?_)
    have hw : zHw x A s.heap (zHW x b t S l0 T l1 K l2 ik fd tb tq bo so nn) H locs := hw
    refine lv_astore (lv' := [(6, .ref (b 7)), (0, .ref (b 0)), (1, .int 2), (2, .int fr), (3, .int z), (4, .int to), (5, .int vn)]) hx hb dX5_copy_5 hl (by decide) rfl (fun ls hl => ?_)
    rcases zcase4 z with rfl | rfl | rfl | rfl | hnz
    · refine lv_aload_n hx hb dX5_copy_7 rfl (lv_at hl 1 rfl) ?_
      refine lv_iload_n hx hb dX5_copy_8 rfl (lv_at hl 4 rfl) ?_
      refine zcVwa hx hb hml hown hts hl.1 hK hE hA lkX5_219 (c_X5_sheetAt_0 x b t S l0 T l1 K l2 ik fd tb tq bo so nn) ⟨Nat.le_of_ble_eq_true rfl, Nat.le_of_ble_eq_true rfl⟩ ⟨Nat.zero_le _, Nat.zero_le _⟩ hw 0 3 rfl rfl rfl rfl (Nat.le_of_ble_eq_true rfl) dX5_copy_9 (fun H locs hw => ?_)
      have hw : zHw x A s.heap (zHW x b t S l0 T l1 K l2 ik fd tb tq bo so nn) H locs := hw
      refine lv_astore (lv' := [(7, .ref (b 5)), (6, .ref (b 7)), (0, .ref (b 0)), (1, .int 2), (2, .int fr), (3, .int 0), (4, .int to), (5, .int vn)]) hx hb dX5_copy_12 hl (by decide) rfl (fun ls hl => ?_)
      refine lv_aload hx hb dX5_copy_14 (lv_at hl 1 rfl) ?_
      refine lv_ifnull hx hb dX5_copy_16 ?_
      refine lv_aload hx hb dX5_copy_19 (lv_at hl 0 rfl) ?_
      refine lv_ifnonnull (tgt := 31) hx hb dX5_copy_21 (by decide) ?_
      refine lv_aload hx hb dX5_copy_31 (lv_at hl 1 rfl) ?_
      refine zcVmi (r := zb (bo 2 = 0)) (C1 := (zOW x b t ik fd ++ (zTW x (t 0) S l0 ++ (zTW x (t 1) T l1 ++ (zTW x (t 2) K l2 ++ (zPW x b tb tq ++ (zSH x (b 5) (b 9) (bo 0) (so 0) (nn 0) ++ zSH x (b 6) (b 10) (bo 1) (so 1) (nn 1)))))))) (C2 := (zSH x (b 8) (b 12) (bo 3) (so 3) (nn 3))) hx hb hml hown hts hl.1 hK hE hA lkX5_228 (c_X1_isMissing x (b 7) (b 11) (bo 2) (so 2) (nn 2) ) ⟨Nat.le_of_ble_eq_true rfl, Nat.le_of_ble_eq_true rfl⟩ ⟨Nat.zero_le _, Nat.zero_le _⟩ hw 0 0 rfl rfl rfl rfl (Nat.le_of_ble_eq_true rfl) dX5_copy_33 (fun H locs hw => ?_)
      have hw : zHw x A s.heap (zHW x b t S l0 T l1 K l2 ik fd tb tq bo so nn) H locs := hw
      refine lv_if_ne (tgt := 47) hx hb dX5_copy_36 (by decide) (fun c36 => ?_) (fun c36 => ?_)
      · have c36 := zb_n0.mp c36
        refine lv_aload_n hx hb dX5_copy_47 rfl (lv_at hl 2 rfl) ?_
        refine lv_ldc (v := (-1000000006)) hx hb hown (hts _ ckX5_231) dX5_copy_48 ?_
        refine zcVwi (r := (-1000000006)) hx hb hml hown hts hl.1 hK hE hA lkX5_52 (c_X5_found x b t S l0 T l1 K l2 ik fd tb tq bo so nn (-1000000006) 5 (by decide) (by decide)) ⟨Nat.le_of_ble_eq_true rfl, Nat.le_of_ble_eq_true rfl⟩ ⟨Nat.zero_le _, Nat.zero_le _⟩ hw 0 3 rfl rfl rfl rfl (Nat.le_of_ble_eq_true rfl) dX5_copy_50 (fun H locs hw => ?_)
        have hw : zHw x A s.heap (zHW x b t S l0 T l1 K l2 ik (upd fd 5 (fd 5 + 1)) tb tq bo so nn) H locs := hw
        exact zFG.iret hx hb hr hlocks hQ hw rfl dX5_copy_53 (by rw [show zm_copy bo so nn fd 2 fr 0 to vn = ((-1000000006), nn, zFd fd 5) from (by unfold zm_copy; rw [if_pos ⟨by decide, by decide⟩, show zc (2 : Int32) = 2 from rfl, show zc (0 : Int32) = 0 from rfl, if_pos (by first | exact Or.inr c44 | exact Or.inl c36)])]; exact ⟨rfl, rfl⟩)
      · have c36 := zb_0.mp c36
        refine lv_aload hx hb dX5_copy_39 (lv_at hl 0 rfl) ?_
        refine zcVmi (r := zb (bo 0 = 0)) (C1 := (zOW x b t ik fd ++ (zTW x (t 0) S l0 ++ (zTW x (t 1) T l1 ++ (zTW x (t 2) K l2 ++ zPW x b tb tq))))) (C2 := (zSH x (b 6) (b 10) (bo 1) (so 1) (nn 1) ++ (zSH x (b 7) (b 11) (bo 2) (so 2) (nn 2) ++ zSH x (b 8) (b 12) (bo 3) (so 3) (nn 3)))) hx hb hml hown hts hl.1 hK hE hA lkX5_228 (c_X1_isMissing x (b 5) (b 9) (bo 0) (so 0) (nn 0) ) ⟨Nat.le_of_ble_eq_true rfl, Nat.le_of_ble_eq_true rfl⟩ ⟨Nat.zero_le _, Nat.zero_le _⟩ hw 0 0 rfl rfl rfl rfl (Nat.le_of_ble_eq_true rfl) dX5_copy_41 (fun H locs hw => ?_)
        have hw : zHw x A s.heap (zHW x b t S l0 T l1 K l2 ik fd tb tq bo so nn) H locs := hw
        refine lv_if_eq (tgt := 54) hx hb dX5_copy_44 (by decide) (fun c44 => ?_) (fun c44 => ?_)
        · have c44 := zb_0.mp c44
          refine lv_aload hx hb dX5_copy_54 (lv_at hl 1 rfl) ?_
          refine gfX5_239 hx hb hown hts hK hw 36 rfl rfl dX5_copy_56 ?_
          refine lv_aload hx hb dX5_copy_59 (lv_at hl 0 rfl) ?_
          refine gfX5_239 hx hb hown hts hK hw 32 rfl rfl dX5_copy_61 ?_
          refine lv_icmp_eq (tgt := 74) hx hb dX5_copy_64 (by decide) (fun c64 => ?_) (fun c64 => ?_)
          · obtain ⟨-, n1, hn1, hs1⟩ := hS 2 (by decide)
            obtain ⟨-, n2, hn2, hs2⟩ := hS 0 (by decide)
            refine lv_aload hx hb dX5_copy_74 (lv_at hl 1 rfl) ?_
            refine lv_iload_n hx hb dX5_copy_76 rfl (lv_at hl 4 rfl) ?_
            refine lv_iload hx hb dX5_copy_77 (lv_at hl 7 rfl) ?_
            refine zcVmi (r := zb (0 ≤ fr ∧ 0 ≤ vn ∧ vn ≤ so 2 ∧ fr ≤ so 2 - vn)) (C1 := (zOW x b t ik fd ++ (zTW x (t 0) S l0 ++ (zTW x (t 1) T l1 ++ (zTW x (t 2) K l2 ++ (zPW x b tb tq ++ (zSH x (b 5) (b 9) (bo 0) (so 0) (nn 0) ++ zSH x (b 6) (b 10) (bo 1) (so 1) (nn 1)))))))) (C2 := (zSH x (b 8) (b 12) (bo 3) (so 3) (nn 3))) hx hb hml hown hts hl.1 hK hE hA lkX5_242 (c_X1_hasSpan x (b 7) (b 11) (bo 2) (so 2) (nn 2) fr vn) ⟨Nat.le_of_ble_eq_true rfl, Nat.le_of_ble_eq_true rfl⟩ ⟨Nat.zero_le _, Nat.zero_le _⟩ hw 0 0 rfl rfl rfl rfl (Nat.le_of_ble_eq_true rfl) dX5_copy_79 (fun H locs hw => ?_)
            have hw : zHw x A s.heap (zHW x b t S l0 T l1 K l2 ik fd tb tq bo so nn) H locs := hw
            refine lv_if_eq (tgt := 97) hx hb dX5_copy_82 (by decide) (fun c82 => ?_) (fun c82 => ?_)
            · have c82 := zb_0.mp c82
              refine lv_aload_n hx hb dX5_copy_97 rfl (lv_at hl 2 rfl) ?_
              refine lv_ldc (v := (-1000000001)) hx hb hown (hts _ ckX5_51) dX5_copy_98 ?_
              refine zcVwi (r := (-1000000001)) hx hb hml hown hts hl.1 hK hE hA lkX5_52 (c_X5_found x b t S l0 T l1 K l2 ik fd tb tq bo so nn (-1000000001) 0 (by decide) (by decide)) ⟨Nat.le_of_ble_eq_true rfl, Nat.le_of_ble_eq_true rfl⟩ ⟨Nat.zero_le _, Nat.zero_le _⟩ hw 0 3 rfl rfl rfl rfl (Nat.le_of_ble_eq_true rfl) dX5_copy_100 (fun H locs hw => ?_)
              have hw : zHw x A s.heap (zHW x b t S l0 T l1 K l2 ik (upd fd 0 (fd 0 + 1)) tb tq bo so nn) H locs := hw
              exact zFG.iret hx hb hr hlocks hQ hw rfl dX5_copy_103 (by rw [show zm_copy bo so nn fd 2 fr 0 to vn = ((-1000000001), nn, zFd fd 0) from (by unfold zm_copy; rw [if_pos ⟨by decide, by decide⟩, show zc (2 : Int32) = 2 from rfl, show zc (0 : Int32) = 0 from rfl, if_neg (fun h => h.elim c36 c44), if_pos c64, if_neg (fun h => by first | exact c94 ((zspan hn2 hs2).mpr ⟨h.2.1, h.2.2.1, h.2.2.2.2⟩) | exact c82 ((zspan hn1 hs1).mpr ⟨h.1, h.2.2.1, h.2.2.2.1⟩))])]; exact ⟨rfl, rfl⟩)
            · have c82 := zb_n0.mp c82
              refine lv_aload hx hb dX5_copy_85 (lv_at hl 0 rfl) ?_
              refine lv_iload hx hb dX5_copy_87 (lv_at hl 6 rfl) ?_
              refine lv_iload hx hb dX5_copy_89 (lv_at hl 7 rfl) ?_
              refine zcVmi (r := zb (0 ≤ to ∧ 0 ≤ vn ∧ vn ≤ so 0 ∧ to ≤ so 0 - vn)) (C1 := (zOW x b t ik fd ++ (zTW x (t 0) S l0 ++ (zTW x (t 1) T l1 ++ (zTW x (t 2) K l2 ++ zPW x b tb tq))))) (C2 := (zSH x (b 6) (b 10) (bo 1) (so 1) (nn 1) ++ (zSH x (b 7) (b 11) (bo 2) (so 2) (nn 2) ++ zSH x (b 8) (b 12) (bo 3) (so 3) (nn 3)))) hx hb hml hown hts hl.1 hK hE hA lkX5_242 (c_X1_hasSpan x (b 5) (b 9) (bo 0) (so 0) (nn 0) to vn) ⟨Nat.le_of_ble_eq_true rfl, Nat.le_of_ble_eq_true rfl⟩ ⟨Nat.zero_le _, Nat.zero_le _⟩ hw 0 0 rfl rfl rfl rfl (Nat.le_of_ble_eq_true rfl) dX5_copy_91 (fun H locs hw => ?_)
              have hw : zHw x A s.heap (zHW x b t S l0 T l1 K l2 ik fd tb tq bo so nn) H locs := hw
              refine lv_if_ne (tgt := 104) hx hb dX5_copy_94 (by decide) (fun c94 => ?_) (fun c94 => ?_)
              · have c94 := zb_n0.mp c94
                have c82h := (zspan hn1 hs1).mp c82
                have c94h := (zspan hn2 hs2).mp c94
                obtain ⟨i1, k1, rfl, rfl, hb1⟩ := zspan_nat hn1 hs1 c82
                obtain ⟨j1, k2, rfl, ek, hb2⟩ := zspan_nat hn2 hs2 c94
                have ek : k1 = k2 := (nI_eq (by omega) (by omega)).mp ek
                subst ek
                refine lv_aload hx hb dX5_copy_104 (lv_at hl 1 rfl) ?_
                refine gfX5_232 hx hb hown hts hK hw 36 rfl rfl dX5_copy_106 ?_
                refine lv_iload_n hx hb dX5_copy_109 rfl (lv_at hl 4 rfl) ?_
                refine lv_aload hx hb dX5_copy_110 (lv_at hl 0 rfl) ?_
                refine gfX5_232 hx hb hown hts hK hw 32 rfl rfl dX5_copy_112 ?_
                refine lv_iload hx hb dX5_copy_115 (lv_at hl 6 rfl) ?_
                refine lv_iload hx hb dX5_copy_117 (lv_at hl 7 rfl) ?_
                refine zcpyL hx hb (hml.trans hl.1.symm) hown hts acX5 hK hw 37 33 i1 j1 k1 rfl rfl (by omega) (by omega) ⟨Nat.le_of_ble_eq_true rfl, Nat.le_of_ble_eq_true rfl⟩ dX5_copy_119 (fun H locs hw => ?_)
                have hw : zHw x A s.heap (zHW x b t S l0 T l1 K l2 ik fd tb tq bo so (zVL nn 0 (zcp (nn 2) (nn 0) i1 j1 k1))) H locs := hw
                refine lv_iload hx hb dX5_copy_122 (lv_at hl 7 rfl) ?_
                exact zFG.iret hx hb hr hlocks hQ hw rfl dX5_copy_124 (by rw [show zm_copy bo so nn fd 2 (nI i1) 0 (nI j1) (nI k1) = (nI k1, zVL nn 0 (zcp (nn 2) (nn 0) i1 j1 k1), fd) from (by unfold zm_copy; rw [if_pos ⟨by decide, by decide⟩, show zc (2 : Int32) = 2 from rfl, show zc (0 : Int32) = 0 from rfl, if_neg (fun h => h.elim c36 c44), if_pos c64, if_pos ⟨c82h.1, c94h.1, c82h.2.1, c82h.2.2, c94h.2.2⟩, zc_nI (show i1 < 2147483648 by omega), zc_nI (show j1 < 2147483648 by omega), zc_nI (show k1 < 2147483648 by omega)])]; exact ⟨rfl, rfl⟩)
              · have c94 := zb_0.mp c94
                refine lv_aload_n hx hb dX5_copy_97 rfl (lv_at hl 2 rfl) ?_
                refine lv_ldc (v := (-1000000001)) hx hb hown (hts _ ckX5_51) dX5_copy_98 ?_
                refine zcVwi (r := (-1000000001)) hx hb hml hown hts hl.1 hK hE hA lkX5_52 (c_X5_found x b t S l0 T l1 K l2 ik fd tb tq bo so nn (-1000000001) 0 (by decide) (by decide)) ⟨Nat.le_of_ble_eq_true rfl, Nat.le_of_ble_eq_true rfl⟩ ⟨Nat.zero_le _, Nat.zero_le _⟩ hw 0 3 rfl rfl rfl rfl (Nat.le_of_ble_eq_true rfl) dX5_copy_100 (fun H locs hw => ?_)
                have hw : zHw x A s.heap (zHW x b t S l0 T l1 K l2 ik (upd fd 0 (fd 0 + 1)) tb tq bo so nn) H locs := hw
                exact zFG.iret hx hb hr hlocks hQ hw rfl dX5_copy_103 (by rw [show zm_copy bo so nn fd 2 fr 0 to vn = ((-1000000001), nn, zFd fd 0) from (by unfold zm_copy; rw [if_pos ⟨by decide, by decide⟩, show zc (2 : Int32) = 2 from rfl, show zc (0 : Int32) = 0 from rfl, if_neg (fun h => h.elim c36 c44), if_pos c64, if_neg (fun h => by first | exact c94 ((zspan hn2 hs2).mpr ⟨h.2.1, h.2.2.1, h.2.2.2.2⟩) | exact c82 ((zspan hn1 hs1).mpr ⟨h.1, h.2.2.1, h.2.2.2.1⟩))])]; exact ⟨rfl, rfl⟩)
          · refine lv_aload_n hx hb dX5_copy_67 rfl (lv_at hl 2 rfl) ?_
            refine lv_ldc (v := (-1000000003)) hx hb hown (hts _ ckX5_123) dX5_copy_68 ?_
            refine zcVwi (r := (-1000000003)) hx hb hml hown hts hl.1 hK hE hA lkX5_52 (c_X5_found x b t S l0 T l1 K l2 ik fd tb tq bo so nn (-1000000003) 2 (by decide) (by decide)) ⟨Nat.le_of_ble_eq_true rfl, Nat.le_of_ble_eq_true rfl⟩ ⟨Nat.zero_le _, Nat.zero_le _⟩ hw 0 3 rfl rfl rfl rfl (Nat.le_of_ble_eq_true rfl) dX5_copy_70 (fun H locs hw => ?_)
            have hw : zHw x A s.heap (zHW x b t S l0 T l1 K l2 ik (upd fd 2 (fd 2 + 1)) tb tq bo so nn) H locs := hw
            exact zFG.iret hx hb hr hlocks hQ hw rfl dX5_copy_73 (by rw [show zm_copy bo so nn fd 2 fr 0 to vn = ((-1000000003), nn, zFd fd 2) from (by unfold zm_copy; rw [if_pos ⟨by decide, by decide⟩, show zc (2 : Int32) = 2 from rfl, show zc (0 : Int32) = 0 from rfl, if_neg (fun h => h.elim c36 c44), if_neg c64])]; exact ⟨rfl, rfl⟩)
        · have c44 := zb_n0.mp c44
          refine lv_aload_n hx hb dX5_copy_47 rfl (lv_at hl 2 rfl) ?_
          refine lv_ldc (v := (-1000000006)) hx hb hown (hts _ ckX5_231) dX5_copy_48 ?_
          refine zcVwi (r := (-1000000006)) hx hb hml hown hts hl.1 hK hE hA lkX5_52 (c_X5_found x b t S l0 T l1 K l2 ik fd tb tq bo so nn (-1000000006) 5 (by decide) (by decide)) ⟨Nat.le_of_ble_eq_true rfl, Nat.le_of_ble_eq_true rfl⟩ ⟨Nat.zero_le _, Nat.zero_le _⟩ hw 0 3 rfl rfl rfl rfl (Nat.le_of_ble_eq_true rfl) dX5_copy_50 (fun H locs hw => ?_)
          have hw : zHw x A s.heap (zHW x b t S l0 T l1 K l2 ik (upd fd 5 (fd 5 + 1)) tb tq bo so nn) H locs := hw
          exact zFG.iret hx hb hr hlocks hQ hw rfl dX5_copy_53 (by rw [show zm_copy bo so nn fd 2 fr 0 to vn = ((-1000000006), nn, zFd fd 5) from (by unfold zm_copy; rw [if_pos ⟨by decide, by decide⟩, show zc (2 : Int32) = 2 from rfl, show zc (0 : Int32) = 0 from rfl, if_pos (by first | exact Or.inr c44 | exact Or.inl c36)])]; exact ⟨rfl, rfl⟩)
    · refine lv_aload_n hx hb dX5_copy_7 rfl (lv_at hl 1 rfl) ?_
      refine lv_iload_n hx hb dX5_copy_8 rfl (lv_at hl 4 rfl) ?_
      refine zcVwa hx hb hml hown hts hl.1 hK hE hA lkX5_219 (c_X5_sheetAt_1 x b t S l0 T l1 K l2 ik fd tb tq bo so nn) ⟨Nat.le_of_ble_eq_true rfl, Nat.le_of_ble_eq_true rfl⟩ ⟨Nat.zero_le _, Nat.zero_le _⟩ hw 0 3 rfl rfl rfl rfl (Nat.le_of_ble_eq_true rfl) dX5_copy_9 (fun H locs hw => ?_)
      have hw : zHw x A s.heap (zHW x b t S l0 T l1 K l2 ik fd tb tq bo so nn) H locs := hw
      refine lv_astore (lv' := [(7, .ref (b 6)), (6, .ref (b 7)), (0, .ref (b 0)), (1, .int 2), (2, .int fr), (3, .int 1), (4, .int to), (5, .int vn)]) hx hb dX5_copy_12 hl (by decide) rfl (fun ls hl => ?_)
      refine lv_aload hx hb dX5_copy_14 (lv_at hl 1 rfl) ?_
      refine lv_ifnull hx hb dX5_copy_16 ?_
      refine lv_aload hx hb dX5_copy_19 (lv_at hl 0 rfl) ?_
      refine lv_ifnonnull (tgt := 31) hx hb dX5_copy_21 (by decide) ?_
      refine lv_aload hx hb dX5_copy_31 (lv_at hl 1 rfl) ?_
      refine zcVmi (r := zb (bo 2 = 0)) (C1 := (zOW x b t ik fd ++ (zTW x (t 0) S l0 ++ (zTW x (t 1) T l1 ++ (zTW x (t 2) K l2 ++ (zPW x b tb tq ++ (zSH x (b 5) (b 9) (bo 0) (so 0) (nn 0) ++ zSH x (b 6) (b 10) (bo 1) (so 1) (nn 1)))))))) (C2 := (zSH x (b 8) (b 12) (bo 3) (so 3) (nn 3))) hx hb hml hown hts hl.1 hK hE hA lkX5_228 (c_X1_isMissing x (b 7) (b 11) (bo 2) (so 2) (nn 2) ) ⟨Nat.le_of_ble_eq_true rfl, Nat.le_of_ble_eq_true rfl⟩ ⟨Nat.zero_le _, Nat.zero_le _⟩ hw 0 0 rfl rfl rfl rfl (Nat.le_of_ble_eq_true rfl) dX5_copy_33 (fun H locs hw => ?_)
      have hw : zHw x A s.heap (zHW x b t S l0 T l1 K l2 ik fd tb tq bo so nn) H locs := hw
      refine lv_if_ne (tgt := 47) hx hb dX5_copy_36 (by decide) (fun c36 => ?_) (fun c36 => ?_)
      · have c36 := zb_n0.mp c36
        refine lv_aload_n hx hb dX5_copy_47 rfl (lv_at hl 2 rfl) ?_
        refine lv_ldc (v := (-1000000006)) hx hb hown (hts _ ckX5_231) dX5_copy_48 ?_
        refine zcVwi (r := (-1000000006)) hx hb hml hown hts hl.1 hK hE hA lkX5_52 (c_X5_found x b t S l0 T l1 K l2 ik fd tb tq bo so nn (-1000000006) 5 (by decide) (by decide)) ⟨Nat.le_of_ble_eq_true rfl, Nat.le_of_ble_eq_true rfl⟩ ⟨Nat.zero_le _, Nat.zero_le _⟩ hw 0 3 rfl rfl rfl rfl (Nat.le_of_ble_eq_true rfl) dX5_copy_50 (fun H locs hw => ?_)
        have hw : zHw x A s.heap (zHW x b t S l0 T l1 K l2 ik (upd fd 5 (fd 5 + 1)) tb tq bo so nn) H locs := hw
        exact zFG.iret hx hb hr hlocks hQ hw rfl dX5_copy_53 (by rw [show zm_copy bo so nn fd 2 fr 1 to vn = ((-1000000006), nn, zFd fd 5) from (by unfold zm_copy; rw [if_pos ⟨by decide, by decide⟩, show zc (2 : Int32) = 2 from rfl, show zc (1 : Int32) = 1 from rfl, if_pos (by first | exact Or.inr c44 | exact Or.inl c36)])]; exact ⟨rfl, rfl⟩)
      · have c36 := zb_0.mp c36
        refine lv_aload hx hb dX5_copy_39 (lv_at hl 0 rfl) ?_
        refine zcVmi (r := zb (bo 1 = 0)) (C1 := (zOW x b t ik fd ++ (zTW x (t 0) S l0 ++ (zTW x (t 1) T l1 ++ (zTW x (t 2) K l2 ++ (zPW x b tb tq ++ zSH x (b 5) (b 9) (bo 0) (so 0) (nn 0))))))) (C2 := (zSH x (b 7) (b 11) (bo 2) (so 2) (nn 2) ++ zSH x (b 8) (b 12) (bo 3) (so 3) (nn 3))) hx hb hml hown hts hl.1 hK hE hA lkX5_228 (c_X1_isMissing x (b 6) (b 10) (bo 1) (so 1) (nn 1) ) ⟨Nat.le_of_ble_eq_true rfl, Nat.le_of_ble_eq_true rfl⟩ ⟨Nat.zero_le _, Nat.zero_le _⟩ hw 0 0 rfl rfl rfl rfl (Nat.le_of_ble_eq_true rfl) dX5_copy_41 (fun H locs hw => ?_)
        have hw : zHw x A s.heap (zHW x b t S l0 T l1 K l2 ik fd tb tq bo so nn) H locs := hw
        refine lv_if_eq (tgt := 54) hx hb dX5_copy_44 (by decide) (fun c44 => ?_) (fun c44 => ?_)
        · have c44 := zb_0.mp c44
          refine lv_aload hx hb dX5_copy_54 (lv_at hl 1 rfl) ?_
          refine gfX5_239 hx hb hown hts hK hw 36 rfl rfl dX5_copy_56 ?_
          refine lv_aload hx hb dX5_copy_59 (lv_at hl 0 rfl) ?_
          refine gfX5_239 hx hb hown hts hK hw 34 rfl rfl dX5_copy_61 ?_
          refine lv_icmp_eq (tgt := 74) hx hb dX5_copy_64 (by decide) (fun c64 => ?_) (fun c64 => ?_)
          · obtain ⟨-, n1, hn1, hs1⟩ := hS 2 (by decide)
            obtain ⟨-, n2, hn2, hs2⟩ := hS 1 (by decide)
            refine lv_aload hx hb dX5_copy_74 (lv_at hl 1 rfl) ?_
            refine lv_iload_n hx hb dX5_copy_76 rfl (lv_at hl 4 rfl) ?_
            refine lv_iload hx hb dX5_copy_77 (lv_at hl 7 rfl) ?_
            refine zcVmi (r := zb (0 ≤ fr ∧ 0 ≤ vn ∧ vn ≤ so 2 ∧ fr ≤ so 2 - vn)) (C1 := (zOW x b t ik fd ++ (zTW x (t 0) S l0 ++ (zTW x (t 1) T l1 ++ (zTW x (t 2) K l2 ++ (zPW x b tb tq ++ (zSH x (b 5) (b 9) (bo 0) (so 0) (nn 0) ++ zSH x (b 6) (b 10) (bo 1) (so 1) (nn 1)))))))) (C2 := (zSH x (b 8) (b 12) (bo 3) (so 3) (nn 3))) hx hb hml hown hts hl.1 hK hE hA lkX5_242 (c_X1_hasSpan x (b 7) (b 11) (bo 2) (so 2) (nn 2) fr vn) ⟨Nat.le_of_ble_eq_true rfl, Nat.le_of_ble_eq_true rfl⟩ ⟨Nat.zero_le _, Nat.zero_le _⟩ hw 0 0 rfl rfl rfl rfl (Nat.le_of_ble_eq_true rfl) dX5_copy_79 (fun H locs hw => ?_)
            have hw : zHw x A s.heap (zHW x b t S l0 T l1 K l2 ik fd tb tq bo so nn) H locs := hw
            refine lv_if_eq (tgt := 97) hx hb dX5_copy_82 (by decide) (fun c82 => ?_) (fun c82 => ?_)
            · have c82 := zb_0.mp c82
              refine lv_aload_n hx hb dX5_copy_97 rfl (lv_at hl 2 rfl) ?_
              refine lv_ldc (v := (-1000000001)) hx hb hown (hts _ ckX5_51) dX5_copy_98 ?_
              refine zcVwi (r := (-1000000001)) hx hb hml hown hts hl.1 hK hE hA lkX5_52 (c_X5_found x b t S l0 T l1 K l2 ik fd tb tq bo so nn (-1000000001) 0 (by decide) (by decide)) ⟨Nat.le_of_ble_eq_true rfl, Nat.le_of_ble_eq_true rfl⟩ ⟨Nat.zero_le _, Nat.zero_le _⟩ hw 0 3 rfl rfl rfl rfl (Nat.le_of_ble_eq_true rfl) dX5_copy_100 (fun H locs hw => ?_)
              have hw : zHw x A s.heap (zHW x b t S l0 T l1 K l2 ik (upd fd 0 (fd 0 + 1)) tb tq bo so nn) H locs := hw
              exact zFG.iret hx hb hr hlocks hQ hw rfl dX5_copy_103 (by rw [show zm_copy bo so nn fd 2 fr 1 to vn = ((-1000000001), nn, zFd fd 0) from (by unfold zm_copy; rw [if_pos ⟨by decide, by decide⟩, show zc (2 : Int32) = 2 from rfl, show zc (1 : Int32) = 1 from rfl, if_neg (fun h => h.elim c36 c44), if_pos c64, if_neg (fun h => by first | exact c94 ((zspan hn2 hs2).mpr ⟨h.2.1, h.2.2.1, h.2.2.2.2⟩) | exact c82 ((zspan hn1 hs1).mpr ⟨h.1, h.2.2.1, h.2.2.2.1⟩))])]; exact ⟨rfl, rfl⟩)
            · have c82 := zb_n0.mp c82
              refine lv_aload hx hb dX5_copy_85 (lv_at hl 0 rfl) ?_
              refine lv_iload hx hb dX5_copy_87 (lv_at hl 6 rfl) ?_
              refine lv_iload hx hb dX5_copy_89 (lv_at hl 7 rfl) ?_
              refine zcVmi (r := zb (0 ≤ to ∧ 0 ≤ vn ∧ vn ≤ so 1 ∧ to ≤ so 1 - vn)) (C1 := (zOW x b t ik fd ++ (zTW x (t 0) S l0 ++ (zTW x (t 1) T l1 ++ (zTW x (t 2) K l2 ++ (zPW x b tb tq ++ zSH x (b 5) (b 9) (bo 0) (so 0) (nn 0))))))) (C2 := (zSH x (b 7) (b 11) (bo 2) (so 2) (nn 2) ++ zSH x (b 8) (b 12) (bo 3) (so 3) (nn 3))) hx hb hml hown hts hl.1 hK hE hA lkX5_242 (c_X1_hasSpan x (b 6) (b 10) (bo 1) (so 1) (nn 1) to vn) ⟨Nat.le_of_ble_eq_true rfl, Nat.le_of_ble_eq_true rfl⟩ ⟨Nat.zero_le _, Nat.zero_le _⟩ hw 0 0 rfl rfl rfl rfl (Nat.le_of_ble_eq_true rfl) dX5_copy_91 (fun H locs hw => ?_)
              have hw : zHw x A s.heap (zHW x b t S l0 T l1 K l2 ik fd tb tq bo so nn) H locs := hw
              refine lv_if_ne (tgt := 104) hx hb dX5_copy_94 (by decide) (fun c94 => ?_) (fun c94 => ?_)
              · have c94 := zb_n0.mp c94
                have c82h := (zspan hn1 hs1).mp c82
                have c94h := (zspan hn2 hs2).mp c94
                obtain ⟨i1, k1, rfl, rfl, hb1⟩ := zspan_nat hn1 hs1 c82
                obtain ⟨j1, k2, rfl, ek, hb2⟩ := zspan_nat hn2 hs2 c94
                have ek : k1 = k2 := (nI_eq (by omega) (by omega)).mp ek
                subst ek
                refine lv_aload hx hb dX5_copy_104 (lv_at hl 1 rfl) ?_
                refine gfX5_232 hx hb hown hts hK hw 36 rfl rfl dX5_copy_106 ?_
                refine lv_iload_n hx hb dX5_copy_109 rfl (lv_at hl 4 rfl) ?_
                refine lv_aload hx hb dX5_copy_110 (lv_at hl 0 rfl) ?_
                refine gfX5_232 hx hb hown hts hK hw 34 rfl rfl dX5_copy_112 ?_
                refine lv_iload hx hb dX5_copy_115 (lv_at hl 6 rfl) ?_
                refine lv_iload hx hb dX5_copy_117 (lv_at hl 7 rfl) ?_
                refine zcpyL hx hb (hml.trans hl.1.symm) hown hts acX5 hK hw 37 35 i1 j1 k1 rfl rfl (by omega) (by omega) ⟨Nat.le_of_ble_eq_true rfl, Nat.le_of_ble_eq_true rfl⟩ dX5_copy_119 (fun H locs hw => ?_)
                have hw : zHw x A s.heap (zHW x b t S l0 T l1 K l2 ik fd tb tq bo so (zVL nn 1 (zcp (nn 2) (nn 1) i1 j1 k1))) H locs := hw
                refine lv_iload hx hb dX5_copy_122 (lv_at hl 7 rfl) ?_
                exact zFG.iret hx hb hr hlocks hQ hw rfl dX5_copy_124 (by rw [show zm_copy bo so nn fd 2 (nI i1) 1 (nI j1) (nI k1) = (nI k1, zVL nn 1 (zcp (nn 2) (nn 1) i1 j1 k1), fd) from (by unfold zm_copy; rw [if_pos ⟨by decide, by decide⟩, show zc (2 : Int32) = 2 from rfl, show zc (1 : Int32) = 1 from rfl, if_neg (fun h => h.elim c36 c44), if_pos c64, if_pos ⟨c82h.1, c94h.1, c82h.2.1, c82h.2.2, c94h.2.2⟩, zc_nI (show i1 < 2147483648 by omega), zc_nI (show j1 < 2147483648 by omega), zc_nI (show k1 < 2147483648 by omega)])]; exact ⟨rfl, rfl⟩)
              · have c94 := zb_0.mp c94
                refine lv_aload_n hx hb dX5_copy_97 rfl (lv_at hl 2 rfl) ?_
                refine lv_ldc (v := (-1000000001)) hx hb hown (hts _ ckX5_51) dX5_copy_98 ?_
                refine zcVwi (r := (-1000000001)) hx hb hml hown hts hl.1 hK hE hA lkX5_52 (c_X5_found x b t S l0 T l1 K l2 ik fd tb tq bo so nn (-1000000001) 0 (by decide) (by decide)) ⟨Nat.le_of_ble_eq_true rfl, Nat.le_of_ble_eq_true rfl⟩ ⟨Nat.zero_le _, Nat.zero_le _⟩ hw 0 3 rfl rfl rfl rfl (Nat.le_of_ble_eq_true rfl) dX5_copy_100 (fun H locs hw => ?_)
                have hw : zHw x A s.heap (zHW x b t S l0 T l1 K l2 ik (upd fd 0 (fd 0 + 1)) tb tq bo so nn) H locs := hw
                exact zFG.iret hx hb hr hlocks hQ hw rfl dX5_copy_103 (by rw [show zm_copy bo so nn fd 2 fr 1 to vn = ((-1000000001), nn, zFd fd 0) from (by unfold zm_copy; rw [if_pos ⟨by decide, by decide⟩, show zc (2 : Int32) = 2 from rfl, show zc (1 : Int32) = 1 from rfl, if_neg (fun h => h.elim c36 c44), if_pos c64, if_neg (fun h => by first | exact c94 ((zspan hn2 hs2).mpr ⟨h.2.1, h.2.2.1, h.2.2.2.2⟩) | exact c82 ((zspan hn1 hs1).mpr ⟨h.1, h.2.2.1, h.2.2.2.1⟩))])]; exact ⟨rfl, rfl⟩)
          · refine lv_aload_n hx hb dX5_copy_67 rfl (lv_at hl 2 rfl) ?_
            refine lv_ldc (v := (-1000000003)) hx hb hown (hts _ ckX5_123) dX5_copy_68 ?_
            refine zcVwi (r := (-1000000003)) hx hb hml hown hts hl.1 hK hE hA lkX5_52 (c_X5_found x b t S l0 T l1 K l2 ik fd tb tq bo so nn (-1000000003) 2 (by decide) (by decide)) ⟨Nat.le_of_ble_eq_true rfl, Nat.le_of_ble_eq_true rfl⟩ ⟨Nat.zero_le _, Nat.zero_le _⟩ hw 0 3 rfl rfl rfl rfl (Nat.le_of_ble_eq_true rfl) dX5_copy_70 (fun H locs hw => ?_)
            have hw : zHw x A s.heap (zHW x b t S l0 T l1 K l2 ik (upd fd 2 (fd 2 + 1)) tb tq bo so nn) H locs := hw
            exact zFG.iret hx hb hr hlocks hQ hw rfl dX5_copy_73 (by rw [show zm_copy bo so nn fd 2 fr 1 to vn = ((-1000000003), nn, zFd fd 2) from (by unfold zm_copy; rw [if_pos ⟨by decide, by decide⟩, show zc (2 : Int32) = 2 from rfl, show zc (1 : Int32) = 1 from rfl, if_neg (fun h => h.elim c36 c44), if_neg c64])]; exact ⟨rfl, rfl⟩)
        · have c44 := zb_n0.mp c44
          refine lv_aload_n hx hb dX5_copy_47 rfl (lv_at hl 2 rfl) ?_
          refine lv_ldc (v := (-1000000006)) hx hb hown (hts _ ckX5_231) dX5_copy_48 ?_
          refine zcVwi (r := (-1000000006)) hx hb hml hown hts hl.1 hK hE hA lkX5_52 (c_X5_found x b t S l0 T l1 K l2 ik fd tb tq bo so nn (-1000000006) 5 (by decide) (by decide)) ⟨Nat.le_of_ble_eq_true rfl, Nat.le_of_ble_eq_true rfl⟩ ⟨Nat.zero_le _, Nat.zero_le _⟩ hw 0 3 rfl rfl rfl rfl (Nat.le_of_ble_eq_true rfl) dX5_copy_50 (fun H locs hw => ?_)
          have hw : zHw x A s.heap (zHW x b t S l0 T l1 K l2 ik (upd fd 5 (fd 5 + 1)) tb tq bo so nn) H locs := hw
          exact zFG.iret hx hb hr hlocks hQ hw rfl dX5_copy_53 (by rw [show zm_copy bo so nn fd 2 fr 1 to vn = ((-1000000006), nn, zFd fd 5) from (by unfold zm_copy; rw [if_pos ⟨by decide, by decide⟩, show zc (2 : Int32) = 2 from rfl, show zc (1 : Int32) = 1 from rfl, if_pos (by first | exact Or.inr c44 | exact Or.inl c36)])]; exact ⟨rfl, rfl⟩)
    · refine lv_aload_n hx hb dX5_copy_7 rfl (lv_at hl 1 rfl) ?_
      refine lv_iload_n hx hb dX5_copy_8 rfl (lv_at hl 4 rfl) ?_
      refine zcVwa hx hb hml hown hts hl.1 hK hE hA lkX5_219 (c_X5_sheetAt_2 x b t S l0 T l1 K l2 ik fd tb tq bo so nn) ⟨Nat.le_of_ble_eq_true rfl, Nat.le_of_ble_eq_true rfl⟩ ⟨Nat.zero_le _, Nat.zero_le _⟩ hw 0 3 rfl rfl rfl rfl (Nat.le_of_ble_eq_true rfl) dX5_copy_9 (fun H locs hw => ?_)
      have hw : zHw x A s.heap (zHW x b t S l0 T l1 K l2 ik fd tb tq bo so nn) H locs := hw
      refine lv_astore (lv' := [(7, .ref (b 7)), (6, .ref (b 7)), (0, .ref (b 0)), (1, .int 2), (2, .int fr), (3, .int 2), (4, .int to), (5, .int vn)]) hx hb dX5_copy_12 hl (by decide) rfl (fun ls hl => ?_)
      refine lv_aload hx hb dX5_copy_14 (lv_at hl 1 rfl) ?_
      refine lv_ifnull hx hb dX5_copy_16 ?_
      refine lv_aload hx hb dX5_copy_19 (lv_at hl 0 rfl) ?_
      refine lv_ifnonnull (tgt := 31) hx hb dX5_copy_21 (by decide) ?_
      refine lv_aload hx hb dX5_copy_31 (lv_at hl 1 rfl) ?_
      refine zcVmi (r := zb (bo 2 = 0)) (C1 := (zOW x b t ik fd ++ (zTW x (t 0) S l0 ++ (zTW x (t 1) T l1 ++ (zTW x (t 2) K l2 ++ (zPW x b tb tq ++ (zSH x (b 5) (b 9) (bo 0) (so 0) (nn 0) ++ zSH x (b 6) (b 10) (bo 1) (so 1) (nn 1)))))))) (C2 := (zSH x (b 8) (b 12) (bo 3) (so 3) (nn 3))) hx hb hml hown hts hl.1 hK hE hA lkX5_228 (c_X1_isMissing x (b 7) (b 11) (bo 2) (so 2) (nn 2) ) ⟨Nat.le_of_ble_eq_true rfl, Nat.le_of_ble_eq_true rfl⟩ ⟨Nat.zero_le _, Nat.zero_le _⟩ hw 0 0 rfl rfl rfl rfl (Nat.le_of_ble_eq_true rfl) dX5_copy_33 (fun H locs hw => ?_)
      have hw : zHw x A s.heap (zHW x b t S l0 T l1 K l2 ik fd tb tq bo so nn) H locs := hw
      refine lv_if_ne (tgt := 47) hx hb dX5_copy_36 (by decide) (fun c36 => ?_) (fun c36 => ?_)
      · have c36 := zb_n0.mp c36
        refine lv_aload_n hx hb dX5_copy_47 rfl (lv_at hl 2 rfl) ?_
        refine lv_ldc (v := (-1000000006)) hx hb hown (hts _ ckX5_231) dX5_copy_48 ?_
        refine zcVwi (r := (-1000000006)) hx hb hml hown hts hl.1 hK hE hA lkX5_52 (c_X5_found x b t S l0 T l1 K l2 ik fd tb tq bo so nn (-1000000006) 5 (by decide) (by decide)) ⟨Nat.le_of_ble_eq_true rfl, Nat.le_of_ble_eq_true rfl⟩ ⟨Nat.zero_le _, Nat.zero_le _⟩ hw 0 3 rfl rfl rfl rfl (Nat.le_of_ble_eq_true rfl) dX5_copy_50 (fun H locs hw => ?_)
        have hw : zHw x A s.heap (zHW x b t S l0 T l1 K l2 ik (upd fd 5 (fd 5 + 1)) tb tq bo so nn) H locs := hw
        exact zFG.iret hx hb hr hlocks hQ hw rfl dX5_copy_53 (by rw [show zm_copy bo so nn fd 2 fr 2 to vn = ((-1000000006), nn, zFd fd 5) from (by unfold zm_copy; rw [if_pos ⟨by decide, by decide⟩, show zc (2 : Int32) = 2 from rfl, if_pos (by first | exact Or.inr c44 | exact Or.inl c36)])]; exact ⟨rfl, rfl⟩)
      · have c36 := zb_0.mp c36
        refine lv_aload hx hb dX5_copy_39 (lv_at hl 0 rfl) ?_
        refine zcVmi (r := zb (bo 2 = 0)) (C1 := (zOW x b t ik fd ++ (zTW x (t 0) S l0 ++ (zTW x (t 1) T l1 ++ (zTW x (t 2) K l2 ++ (zPW x b tb tq ++ (zSH x (b 5) (b 9) (bo 0) (so 0) (nn 0) ++ zSH x (b 6) (b 10) (bo 1) (so 1) (nn 1)))))))) (C2 := (zSH x (b 8) (b 12) (bo 3) (so 3) (nn 3))) hx hb hml hown hts hl.1 hK hE hA lkX5_228 (c_X1_isMissing x (b 7) (b 11) (bo 2) (so 2) (nn 2) ) ⟨Nat.le_of_ble_eq_true rfl, Nat.le_of_ble_eq_true rfl⟩ ⟨Nat.zero_le _, Nat.zero_le _⟩ hw 0 0 rfl rfl rfl rfl (Nat.le_of_ble_eq_true rfl) dX5_copy_41 (fun H locs hw => ?_)
        have hw : zHw x A s.heap (zHW x b t S l0 T l1 K l2 ik fd tb tq bo so nn) H locs := hw
        refine lv_if_eq (tgt := 54) hx hb dX5_copy_44 (by decide) (fun c44 => ?_) (fun c44 => absurd (zb_0.mpr c36) c44)
        refine lv_aload hx hb dX5_copy_54 (lv_at hl 1 rfl) ?_
        refine gfX5_239 hx hb hown hts hK hw 36 rfl rfl dX5_copy_56 ?_
        refine lv_aload hx hb dX5_copy_59 (lv_at hl 0 rfl) ?_
        refine gfX5_239 hx hb hown hts hK hw 36 rfl rfl dX5_copy_61 ?_
        refine lv_icmp_eq (tgt := 74) hx hb dX5_copy_64 (by decide) (fun c64 => ?_) (fun c64 => ?_)
        · obtain ⟨-, n1, hn1, hs1⟩ := hS 2 (by decide)
          obtain ⟨-, n2, hn2, hs2⟩ := hS 2 (by decide)
          refine lv_aload hx hb dX5_copy_74 (lv_at hl 1 rfl) ?_
          refine lv_iload_n hx hb dX5_copy_76 rfl (lv_at hl 4 rfl) ?_
          refine lv_iload hx hb dX5_copy_77 (lv_at hl 7 rfl) ?_
          refine zcVmi (r := zb (0 ≤ fr ∧ 0 ≤ vn ∧ vn ≤ so 2 ∧ fr ≤ so 2 - vn)) (C1 := (zOW x b t ik fd ++ (zTW x (t 0) S l0 ++ (zTW x (t 1) T l1 ++ (zTW x (t 2) K l2 ++ (zPW x b tb tq ++ (zSH x (b 5) (b 9) (bo 0) (so 0) (nn 0) ++ zSH x (b 6) (b 10) (bo 1) (so 1) (nn 1)))))))) (C2 := (zSH x (b 8) (b 12) (bo 3) (so 3) (nn 3))) hx hb hml hown hts hl.1 hK hE hA lkX5_242 (c_X1_hasSpan x (b 7) (b 11) (bo 2) (so 2) (nn 2) fr vn) ⟨Nat.le_of_ble_eq_true rfl, Nat.le_of_ble_eq_true rfl⟩ ⟨Nat.zero_le _, Nat.zero_le _⟩ hw 0 0 rfl rfl rfl rfl (Nat.le_of_ble_eq_true rfl) dX5_copy_79 (fun H locs hw => ?_)
          have hw : zHw x A s.heap (zHW x b t S l0 T l1 K l2 ik fd tb tq bo so nn) H locs := hw
          refine lv_if_eq (tgt := 97) hx hb dX5_copy_82 (by decide) (fun c82 => ?_) (fun c82 => ?_)
          · have c82 := zb_0.mp c82
            refine lv_aload_n hx hb dX5_copy_97 rfl (lv_at hl 2 rfl) ?_
            refine lv_ldc (v := (-1000000001)) hx hb hown (hts _ ckX5_51) dX5_copy_98 ?_
            refine zcVwi (r := (-1000000001)) hx hb hml hown hts hl.1 hK hE hA lkX5_52 (c_X5_found x b t S l0 T l1 K l2 ik fd tb tq bo so nn (-1000000001) 0 (by decide) (by decide)) ⟨Nat.le_of_ble_eq_true rfl, Nat.le_of_ble_eq_true rfl⟩ ⟨Nat.zero_le _, Nat.zero_le _⟩ hw 0 3 rfl rfl rfl rfl (Nat.le_of_ble_eq_true rfl) dX5_copy_100 (fun H locs hw => ?_)
            have hw : zHw x A s.heap (zHW x b t S l0 T l1 K l2 ik (upd fd 0 (fd 0 + 1)) tb tq bo so nn) H locs := hw
            exact zFG.iret hx hb hr hlocks hQ hw rfl dX5_copy_103 (by rw [show zm_copy bo so nn fd 2 fr 2 to vn = ((-1000000001), nn, zFd fd 0) from (by unfold zm_copy; rw [if_pos ⟨by decide, by decide⟩, show zc (2 : Int32) = 2 from rfl, if_neg (fun h => h.elim c36 c36), if_pos c64, if_neg (fun h => by first | exact c94 ((zspan hn2 hs2).mpr ⟨h.2.1, h.2.2.1, h.2.2.2.2⟩) | exact c82 ((zspan hn1 hs1).mpr ⟨h.1, h.2.2.1, h.2.2.2.1⟩))])]; exact ⟨rfl, rfl⟩)
          · have c82 := zb_n0.mp c82
            refine lv_aload hx hb dX5_copy_85 (lv_at hl 0 rfl) ?_
            refine lv_iload hx hb dX5_copy_87 (lv_at hl 6 rfl) ?_
            refine lv_iload hx hb dX5_copy_89 (lv_at hl 7 rfl) ?_
            refine zcVmi (r := zb (0 ≤ to ∧ 0 ≤ vn ∧ vn ≤ so 2 ∧ to ≤ so 2 - vn)) (C1 := (zOW x b t ik fd ++ (zTW x (t 0) S l0 ++ (zTW x (t 1) T l1 ++ (zTW x (t 2) K l2 ++ (zPW x b tb tq ++ (zSH x (b 5) (b 9) (bo 0) (so 0) (nn 0) ++ zSH x (b 6) (b 10) (bo 1) (so 1) (nn 1)))))))) (C2 := (zSH x (b 8) (b 12) (bo 3) (so 3) (nn 3))) hx hb hml hown hts hl.1 hK hE hA lkX5_242 (c_X1_hasSpan x (b 7) (b 11) (bo 2) (so 2) (nn 2) to vn) ⟨Nat.le_of_ble_eq_true rfl, Nat.le_of_ble_eq_true rfl⟩ ⟨Nat.zero_le _, Nat.zero_le _⟩ hw 0 0 rfl rfl rfl rfl (Nat.le_of_ble_eq_true rfl) dX5_copy_91 (fun H locs hw => ?_)
            have hw : zHw x A s.heap (zHW x b t S l0 T l1 K l2 ik fd tb tq bo so nn) H locs := hw
            refine lv_if_ne (tgt := 104) hx hb dX5_copy_94 (by decide) (fun c94 => ?_) (fun c94 => ?_)
            · have c94 := zb_n0.mp c94
              have c82h := (zspan hn1 hs1).mp c82
              have c94h := (zspan hn2 hs2).mp c94
              obtain ⟨i1, k1, rfl, rfl, hb1⟩ := zspan_nat hn1 hs1 c82
              obtain ⟨j1, k2, rfl, ek, hb2⟩ := zspan_nat hn2 hs2 c94
              have ek : k1 = k2 := (nI_eq (by omega) (by omega)).mp ek
              subst ek
              refine lv_aload hx hb dX5_copy_104 (lv_at hl 1 rfl) ?_
              refine gfX5_232 hx hb hown hts hK hw 36 rfl rfl dX5_copy_106 ?_
              refine lv_iload_n hx hb dX5_copy_109 rfl (lv_at hl 4 rfl) ?_
              refine lv_aload hx hb dX5_copy_110 (lv_at hl 0 rfl) ?_
              refine gfX5_232 hx hb hown hts hK hw 36 rfl rfl dX5_copy_112 ?_
              refine lv_iload hx hb dX5_copy_115 (lv_at hl 6 rfl) ?_
              refine lv_iload hx hb dX5_copy_117 (lv_at hl 7 rfl) ?_
              refine zcpyL hx hb (hml.trans hl.1.symm) hown hts acX5 hK hw 37 37 i1 j1 k1 rfl rfl (by omega) (by omega) ⟨Nat.le_of_ble_eq_true rfl, Nat.le_of_ble_eq_true rfl⟩ dX5_copy_119 (fun H locs hw => ?_)
              have hw : zHw x A s.heap (zHW x b t S l0 T l1 K l2 ik fd tb tq bo so (zVL nn 2 (zcp (nn 2) (nn 2) i1 j1 k1))) H locs := hw
              refine lv_iload hx hb dX5_copy_122 (lv_at hl 7 rfl) ?_
              exact zFG.iret hx hb hr hlocks hQ hw rfl dX5_copy_124 (by rw [show zm_copy bo so nn fd 2 (nI i1) 2 (nI j1) (nI k1) = (nI k1, zVL nn 2 (zcp (nn 2) (nn 2) i1 j1 k1), fd) from (by unfold zm_copy; rw [if_pos ⟨by decide, by decide⟩, show zc (2 : Int32) = 2 from rfl, if_neg (fun h => h.elim c36 c36), if_pos c64, if_pos ⟨c82h.1, c94h.1, c82h.2.1, c82h.2.2, c94h.2.2⟩, zc_nI (show i1 < 2147483648 by omega), zc_nI (show j1 < 2147483648 by omega), zc_nI (show k1 < 2147483648 by omega)])]; exact ⟨rfl, rfl⟩)
            · have c94 := zb_0.mp c94
              refine lv_aload_n hx hb dX5_copy_97 rfl (lv_at hl 2 rfl) ?_
              refine lv_ldc (v := (-1000000001)) hx hb hown (hts _ ckX5_51) dX5_copy_98 ?_
              refine zcVwi (r := (-1000000001)) hx hb hml hown hts hl.1 hK hE hA lkX5_52 (c_X5_found x b t S l0 T l1 K l2 ik fd tb tq bo so nn (-1000000001) 0 (by decide) (by decide)) ⟨Nat.le_of_ble_eq_true rfl, Nat.le_of_ble_eq_true rfl⟩ ⟨Nat.zero_le _, Nat.zero_le _⟩ hw 0 3 rfl rfl rfl rfl (Nat.le_of_ble_eq_true rfl) dX5_copy_100 (fun H locs hw => ?_)
              have hw : zHw x A s.heap (zHW x b t S l0 T l1 K l2 ik (upd fd 0 (fd 0 + 1)) tb tq bo so nn) H locs := hw
              exact zFG.iret hx hb hr hlocks hQ hw rfl dX5_copy_103 (by rw [show zm_copy bo so nn fd 2 fr 2 to vn = ((-1000000001), nn, zFd fd 0) from (by unfold zm_copy; rw [if_pos ⟨by decide, by decide⟩, show zc (2 : Int32) = 2 from rfl, if_neg (fun h => h.elim c36 c36), if_pos c64, if_neg (fun h => by first | exact c94 ((zspan hn2 hs2).mpr ⟨h.2.1, h.2.2.1, h.2.2.2.2⟩) | exact c82 ((zspan hn1 hs1).mpr ⟨h.1, h.2.2.1, h.2.2.2.1⟩))])]; exact ⟨rfl, rfl⟩)
        · refine lv_aload_n hx hb dX5_copy_67 rfl (lv_at hl 2 rfl) ?_
          refine lv_ldc (v := (-1000000003)) hx hb hown (hts _ ckX5_123) dX5_copy_68 ?_
          refine zcVwi (r := (-1000000003)) hx hb hml hown hts hl.1 hK hE hA lkX5_52 (c_X5_found x b t S l0 T l1 K l2 ik fd tb tq bo so nn (-1000000003) 2 (by decide) (by decide)) ⟨Nat.le_of_ble_eq_true rfl, Nat.le_of_ble_eq_true rfl⟩ ⟨Nat.zero_le _, Nat.zero_le _⟩ hw 0 3 rfl rfl rfl rfl (Nat.le_of_ble_eq_true rfl) dX5_copy_70 (fun H locs hw => ?_)
          have hw : zHw x A s.heap (zHW x b t S l0 T l1 K l2 ik (upd fd 2 (fd 2 + 1)) tb tq bo so nn) H locs := hw
          exact zFG.iret hx hb hr hlocks hQ hw rfl dX5_copy_73 (by rw [show zm_copy bo so nn fd 2 fr 2 to vn = ((-1000000003), nn, zFd fd 2) from (by unfold zm_copy; rw [if_pos ⟨by decide, by decide⟩, show zc (2 : Int32) = 2 from rfl, if_neg (fun h => h.elim c36 c36), if_neg c64])]; exact ⟨rfl, rfl⟩)
    · refine lv_aload_n hx hb dX5_copy_7 rfl (lv_at hl 1 rfl) ?_
      refine lv_iload_n hx hb dX5_copy_8 rfl (lv_at hl 4 rfl) ?_
      refine zcVwa hx hb hml hown hts hl.1 hK hE hA lkX5_219 (c_X5_sheetAt_3 x b t S l0 T l1 K l2 ik fd tb tq bo so nn) ⟨Nat.le_of_ble_eq_true rfl, Nat.le_of_ble_eq_true rfl⟩ ⟨Nat.zero_le _, Nat.zero_le _⟩ hw 0 3 rfl rfl rfl rfl (Nat.le_of_ble_eq_true rfl) dX5_copy_9 (fun H locs hw => ?_)
      have hw : zHw x A s.heap (zHW x b t S l0 T l1 K l2 ik fd tb tq bo so nn) H locs := hw
      refine lv_astore (lv' := [(7, .ref (b 8)), (6, .ref (b 7)), (0, .ref (b 0)), (1, .int 2), (2, .int fr), (3, .int 3), (4, .int to), (5, .int vn)]) hx hb dX5_copy_12 hl (by decide) rfl (fun ls hl => ?_)
      refine lv_aload hx hb dX5_copy_14 (lv_at hl 1 rfl) ?_
      refine lv_ifnull hx hb dX5_copy_16 ?_
      refine lv_aload hx hb dX5_copy_19 (lv_at hl 0 rfl) ?_
      refine lv_ifnonnull (tgt := 31) hx hb dX5_copy_21 (by decide) ?_
      refine lv_aload hx hb dX5_copy_31 (lv_at hl 1 rfl) ?_
      refine zcVmi (r := zb (bo 2 = 0)) (C1 := (zOW x b t ik fd ++ (zTW x (t 0) S l0 ++ (zTW x (t 1) T l1 ++ (zTW x (t 2) K l2 ++ (zPW x b tb tq ++ (zSH x (b 5) (b 9) (bo 0) (so 0) (nn 0) ++ zSH x (b 6) (b 10) (bo 1) (so 1) (nn 1)))))))) (C2 := (zSH x (b 8) (b 12) (bo 3) (so 3) (nn 3))) hx hb hml hown hts hl.1 hK hE hA lkX5_228 (c_X1_isMissing x (b 7) (b 11) (bo 2) (so 2) (nn 2) ) ⟨Nat.le_of_ble_eq_true rfl, Nat.le_of_ble_eq_true rfl⟩ ⟨Nat.zero_le _, Nat.zero_le _⟩ hw 0 0 rfl rfl rfl rfl (Nat.le_of_ble_eq_true rfl) dX5_copy_33 (fun H locs hw => ?_)
      have hw : zHw x A s.heap (zHW x b t S l0 T l1 K l2 ik fd tb tq bo so nn) H locs := hw
      refine lv_if_ne (tgt := 47) hx hb dX5_copy_36 (by decide) (fun c36 => ?_) (fun c36 => ?_)
      · have c36 := zb_n0.mp c36
        refine lv_aload_n hx hb dX5_copy_47 rfl (lv_at hl 2 rfl) ?_
        refine lv_ldc (v := (-1000000006)) hx hb hown (hts _ ckX5_231) dX5_copy_48 ?_
        refine zcVwi (r := (-1000000006)) hx hb hml hown hts hl.1 hK hE hA lkX5_52 (c_X5_found x b t S l0 T l1 K l2 ik fd tb tq bo so nn (-1000000006) 5 (by decide) (by decide)) ⟨Nat.le_of_ble_eq_true rfl, Nat.le_of_ble_eq_true rfl⟩ ⟨Nat.zero_le _, Nat.zero_le _⟩ hw 0 3 rfl rfl rfl rfl (Nat.le_of_ble_eq_true rfl) dX5_copy_50 (fun H locs hw => ?_)
        have hw : zHw x A s.heap (zHW x b t S l0 T l1 K l2 ik (upd fd 5 (fd 5 + 1)) tb tq bo so nn) H locs := hw
        exact zFG.iret hx hb hr hlocks hQ hw rfl dX5_copy_53 (by rw [show zm_copy bo so nn fd 2 fr 3 to vn = ((-1000000006), nn, zFd fd 5) from (by unfold zm_copy; rw [if_pos ⟨by decide, by decide⟩, show zc (2 : Int32) = 2 from rfl, show zc (3 : Int32) = 3 from rfl, if_pos (by first | exact Or.inr c44 | exact Or.inl c36)])]; exact ⟨rfl, rfl⟩)
      · have c36 := zb_0.mp c36
        refine lv_aload hx hb dX5_copy_39 (lv_at hl 0 rfl) ?_
        refine zcVmi (r := zb (bo 3 = 0)) (C1 := (zOW x b t ik fd ++ (zTW x (t 0) S l0 ++ (zTW x (t 1) T l1 ++ (zTW x (t 2) K l2 ++ (zPW x b tb tq ++ (zSH x (b 5) (b 9) (bo 0) (so 0) (nn 0) ++ (zSH x (b 6) (b 10) (bo 1) (so 1) (nn 1) ++ zSH x (b 7) (b 11) (bo 2) (so 2) (nn 2))))))))) (C2 := []) hx hb hml hown hts hl.1 hK hE hA lkX5_228 (c_X1_isMissing x (b 8) (b 12) (bo 3) (so 3) (nn 3) ) ⟨Nat.le_of_ble_eq_true rfl, Nat.le_of_ble_eq_true rfl⟩ ⟨Nat.zero_le _, Nat.zero_le _⟩ hw 0 0 rfl rfl rfl rfl (Nat.le_of_ble_eq_true rfl) dX5_copy_41 (fun H locs hw => ?_)
        have hw : zHw x A s.heap (zHW x b t S l0 T l1 K l2 ik fd tb tq bo so nn) H locs := hw
        refine lv_if_eq (tgt := 54) hx hb dX5_copy_44 (by decide) (fun c44 => ?_) (fun c44 => ?_)
        · have c44 := zb_0.mp c44
          refine lv_aload hx hb dX5_copy_54 (lv_at hl 1 rfl) ?_
          refine gfX5_239 hx hb hown hts hK hw 36 rfl rfl dX5_copy_56 ?_
          refine lv_aload hx hb dX5_copy_59 (lv_at hl 0 rfl) ?_
          refine gfX5_239 hx hb hown hts hK hw 38 rfl rfl dX5_copy_61 ?_
          refine lv_icmp_eq (tgt := 74) hx hb dX5_copy_64 (by decide) (fun c64 => ?_) (fun c64 => ?_)
          · obtain ⟨-, n1, hn1, hs1⟩ := hS 2 (by decide)
            obtain ⟨-, n2, hn2, hs2⟩ := hS 3 (by decide)
            refine lv_aload hx hb dX5_copy_74 (lv_at hl 1 rfl) ?_
            refine lv_iload_n hx hb dX5_copy_76 rfl (lv_at hl 4 rfl) ?_
            refine lv_iload hx hb dX5_copy_77 (lv_at hl 7 rfl) ?_
            refine zcVmi (r := zb (0 ≤ fr ∧ 0 ≤ vn ∧ vn ≤ so 2 ∧ fr ≤ so 2 - vn)) (C1 := (zOW x b t ik fd ++ (zTW x (t 0) S l0 ++ (zTW x (t 1) T l1 ++ (zTW x (t 2) K l2 ++ (zPW x b tb tq ++ (zSH x (b 5) (b 9) (bo 0) (so 0) (nn 0) ++ zSH x (b 6) (b 10) (bo 1) (so 1) (nn 1)))))))) (C2 := (zSH x (b 8) (b 12) (bo 3) (so 3) (nn 3))) hx hb hml hown hts hl.1 hK hE hA lkX5_242 (c_X1_hasSpan x (b 7) (b 11) (bo 2) (so 2) (nn 2) fr vn) ⟨Nat.le_of_ble_eq_true rfl, Nat.le_of_ble_eq_true rfl⟩ ⟨Nat.zero_le _, Nat.zero_le _⟩ hw 0 0 rfl rfl rfl rfl (Nat.le_of_ble_eq_true rfl) dX5_copy_79 (fun H locs hw => ?_)
            have hw : zHw x A s.heap (zHW x b t S l0 T l1 K l2 ik fd tb tq bo so nn) H locs := hw
            refine lv_if_eq (tgt := 97) hx hb dX5_copy_82 (by decide) (fun c82 => ?_) (fun c82 => ?_)
            · have c82 := zb_0.mp c82
              refine lv_aload_n hx hb dX5_copy_97 rfl (lv_at hl 2 rfl) ?_
              refine lv_ldc (v := (-1000000001)) hx hb hown (hts _ ckX5_51) dX5_copy_98 ?_
              refine zcVwi (r := (-1000000001)) hx hb hml hown hts hl.1 hK hE hA lkX5_52 (c_X5_found x b t S l0 T l1 K l2 ik fd tb tq bo so nn (-1000000001) 0 (by decide) (by decide)) ⟨Nat.le_of_ble_eq_true rfl, Nat.le_of_ble_eq_true rfl⟩ ⟨Nat.zero_le _, Nat.zero_le _⟩ hw 0 3 rfl rfl rfl rfl (Nat.le_of_ble_eq_true rfl) dX5_copy_100 (fun H locs hw => ?_)
              have hw : zHw x A s.heap (zHW x b t S l0 T l1 K l2 ik (upd fd 0 (fd 0 + 1)) tb tq bo so nn) H locs := hw
              exact zFG.iret hx hb hr hlocks hQ hw rfl dX5_copy_103 (by rw [show zm_copy bo so nn fd 2 fr 3 to vn = ((-1000000001), nn, zFd fd 0) from (by unfold zm_copy; rw [if_pos ⟨by decide, by decide⟩, show zc (2 : Int32) = 2 from rfl, show zc (3 : Int32) = 3 from rfl, if_neg (fun h => h.elim c36 c44), if_pos c64, if_neg (fun h => by first | exact c94 ((zspan hn2 hs2).mpr ⟨h.2.1, h.2.2.1, h.2.2.2.2⟩) | exact c82 ((zspan hn1 hs1).mpr ⟨h.1, h.2.2.1, h.2.2.2.1⟩))])]; exact ⟨rfl, rfl⟩)
            · have c82 := zb_n0.mp c82
              refine lv_aload hx hb dX5_copy_85 (lv_at hl 0 rfl) ?_
              refine lv_iload hx hb dX5_copy_87 (lv_at hl 6 rfl) ?_
              refine lv_iload hx hb dX5_copy_89 (lv_at hl 7 rfl) ?_
              refine zcVmi (r := zb (0 ≤ to ∧ 0 ≤ vn ∧ vn ≤ so 3 ∧ to ≤ so 3 - vn)) (C1 := (zOW x b t ik fd ++ (zTW x (t 0) S l0 ++ (zTW x (t 1) T l1 ++ (zTW x (t 2) K l2 ++ (zPW x b tb tq ++ (zSH x (b 5) (b 9) (bo 0) (so 0) (nn 0) ++ (zSH x (b 6) (b 10) (bo 1) (so 1) (nn 1) ++ zSH x (b 7) (b 11) (bo 2) (so 2) (nn 2))))))))) (C2 := []) hx hb hml hown hts hl.1 hK hE hA lkX5_242 (c_X1_hasSpan x (b 8) (b 12) (bo 3) (so 3) (nn 3) to vn) ⟨Nat.le_of_ble_eq_true rfl, Nat.le_of_ble_eq_true rfl⟩ ⟨Nat.zero_le _, Nat.zero_le _⟩ hw 0 0 rfl rfl rfl rfl (Nat.le_of_ble_eq_true rfl) dX5_copy_91 (fun H locs hw => ?_)
              have hw : zHw x A s.heap (zHW x b t S l0 T l1 K l2 ik fd tb tq bo so nn) H locs := hw
              refine lv_if_ne (tgt := 104) hx hb dX5_copy_94 (by decide) (fun c94 => ?_) (fun c94 => ?_)
              · have c94 := zb_n0.mp c94
                have c82h := (zspan hn1 hs1).mp c82
                have c94h := (zspan hn2 hs2).mp c94
                obtain ⟨i1, k1, rfl, rfl, hb1⟩ := zspan_nat hn1 hs1 c82
                obtain ⟨j1, k2, rfl, ek, hb2⟩ := zspan_nat hn2 hs2 c94
                have ek : k1 = k2 := (nI_eq (by omega) (by omega)).mp ek
                subst ek
                refine lv_aload hx hb dX5_copy_104 (lv_at hl 1 rfl) ?_
                refine gfX5_232 hx hb hown hts hK hw 36 rfl rfl dX5_copy_106 ?_
                refine lv_iload_n hx hb dX5_copy_109 rfl (lv_at hl 4 rfl) ?_
                refine lv_aload hx hb dX5_copy_110 (lv_at hl 0 rfl) ?_
                refine gfX5_232 hx hb hown hts hK hw 38 rfl rfl dX5_copy_112 ?_
                refine lv_iload hx hb dX5_copy_115 (lv_at hl 6 rfl) ?_
                refine lv_iload hx hb dX5_copy_117 (lv_at hl 7 rfl) ?_
                refine zcpyL hx hb (hml.trans hl.1.symm) hown hts acX5 hK hw 37 39 i1 j1 k1 rfl rfl (by omega) (by omega) ⟨Nat.le_of_ble_eq_true rfl, Nat.le_of_ble_eq_true rfl⟩ dX5_copy_119 (fun H locs hw => ?_)
                have hw : zHw x A s.heap (zHW x b t S l0 T l1 K l2 ik fd tb tq bo so (zVL nn 3 (zcp (nn 2) (nn 3) i1 j1 k1))) H locs := hw
                refine lv_iload hx hb dX5_copy_122 (lv_at hl 7 rfl) ?_
                exact zFG.iret hx hb hr hlocks hQ hw rfl dX5_copy_124 (by rw [show zm_copy bo so nn fd 2 (nI i1) 3 (nI j1) (nI k1) = (nI k1, zVL nn 3 (zcp (nn 2) (nn 3) i1 j1 k1), fd) from (by unfold zm_copy; rw [if_pos ⟨by decide, by decide⟩, show zc (2 : Int32) = 2 from rfl, show zc (3 : Int32) = 3 from rfl, if_neg (fun h => h.elim c36 c44), if_pos c64, if_pos ⟨c82h.1, c94h.1, c82h.2.1, c82h.2.2, c94h.2.2⟩, zc_nI (show i1 < 2147483648 by omega), zc_nI (show j1 < 2147483648 by omega), zc_nI (show k1 < 2147483648 by omega)])]; exact ⟨rfl, rfl⟩)
              · have c94 := zb_0.mp c94
                refine lv_aload_n hx hb dX5_copy_97 rfl (lv_at hl 2 rfl) ?_
                refine lv_ldc (v := (-1000000001)) hx hb hown (hts _ ckX5_51) dX5_copy_98 ?_
                refine zcVwi (r := (-1000000001)) hx hb hml hown hts hl.1 hK hE hA lkX5_52 (c_X5_found x b t S l0 T l1 K l2 ik fd tb tq bo so nn (-1000000001) 0 (by decide) (by decide)) ⟨Nat.le_of_ble_eq_true rfl, Nat.le_of_ble_eq_true rfl⟩ ⟨Nat.zero_le _, Nat.zero_le _⟩ hw 0 3 rfl rfl rfl rfl (Nat.le_of_ble_eq_true rfl) dX5_copy_100 (fun H locs hw => ?_)
                have hw : zHw x A s.heap (zHW x b t S l0 T l1 K l2 ik (upd fd 0 (fd 0 + 1)) tb tq bo so nn) H locs := hw
                exact zFG.iret hx hb hr hlocks hQ hw rfl dX5_copy_103 (by rw [show zm_copy bo so nn fd 2 fr 3 to vn = ((-1000000001), nn, zFd fd 0) from (by unfold zm_copy; rw [if_pos ⟨by decide, by decide⟩, show zc (2 : Int32) = 2 from rfl, show zc (3 : Int32) = 3 from rfl, if_neg (fun h => h.elim c36 c44), if_pos c64, if_neg (fun h => by first | exact c94 ((zspan hn2 hs2).mpr ⟨h.2.1, h.2.2.1, h.2.2.2.2⟩) | exact c82 ((zspan hn1 hs1).mpr ⟨h.1, h.2.2.1, h.2.2.2.1⟩))])]; exact ⟨rfl, rfl⟩)
          · refine lv_aload_n hx hb dX5_copy_67 rfl (lv_at hl 2 rfl) ?_
            refine lv_ldc (v := (-1000000003)) hx hb hown (hts _ ckX5_123) dX5_copy_68 ?_
            refine zcVwi (r := (-1000000003)) hx hb hml hown hts hl.1 hK hE hA lkX5_52 (c_X5_found x b t S l0 T l1 K l2 ik fd tb tq bo so nn (-1000000003) 2 (by decide) (by decide)) ⟨Nat.le_of_ble_eq_true rfl, Nat.le_of_ble_eq_true rfl⟩ ⟨Nat.zero_le _, Nat.zero_le _⟩ hw 0 3 rfl rfl rfl rfl (Nat.le_of_ble_eq_true rfl) dX5_copy_70 (fun H locs hw => ?_)
            have hw : zHw x A s.heap (zHW x b t S l0 T l1 K l2 ik (upd fd 2 (fd 2 + 1)) tb tq bo so nn) H locs := hw
            exact zFG.iret hx hb hr hlocks hQ hw rfl dX5_copy_73 (by rw [show zm_copy bo so nn fd 2 fr 3 to vn = ((-1000000003), nn, zFd fd 2) from (by unfold zm_copy; rw [if_pos ⟨by decide, by decide⟩, show zc (2 : Int32) = 2 from rfl, show zc (3 : Int32) = 3 from rfl, if_neg (fun h => h.elim c36 c44), if_neg c64])]; exact ⟨rfl, rfl⟩)
        · have c44 := zb_n0.mp c44
          refine lv_aload_n hx hb dX5_copy_47 rfl (lv_at hl 2 rfl) ?_
          refine lv_ldc (v := (-1000000006)) hx hb hown (hts _ ckX5_231) dX5_copy_48 ?_
          refine zcVwi (r := (-1000000006)) hx hb hml hown hts hl.1 hK hE hA lkX5_52 (c_X5_found x b t S l0 T l1 K l2 ik fd tb tq bo so nn (-1000000006) 5 (by decide) (by decide)) ⟨Nat.le_of_ble_eq_true rfl, Nat.le_of_ble_eq_true rfl⟩ ⟨Nat.zero_le _, Nat.zero_le _⟩ hw 0 3 rfl rfl rfl rfl (Nat.le_of_ble_eq_true rfl) dX5_copy_50 (fun H locs hw => ?_)
          have hw : zHw x A s.heap (zHW x b t S l0 T l1 K l2 ik (upd fd 5 (fd 5 + 1)) tb tq bo so nn) H locs := hw
          exact zFG.iret hx hb hr hlocks hQ hw rfl dX5_copy_53 (by rw [show zm_copy bo so nn fd 2 fr 3 to vn = ((-1000000006), nn, zFd fd 5) from (by unfold zm_copy; rw [if_pos ⟨by decide, by decide⟩, show zc (2 : Int32) = 2 from rfl, show zc (3 : Int32) = 3 from rfl, if_pos (by first | exact Or.inr c44 | exact Or.inl c36)])]; exact ⟨rfl, rfl⟩)
    · refine lv_aload_n hx hb dX5_copy_7 rfl (lv_at hl 1 rfl) ?_
      refine lv_iload_n hx hb dX5_copy_8 rfl (lv_at hl 4 rfl) ?_
      refine zcVwa hx hb hml hown hts hl.1 hK hE hA lkX5_219 (c_X5_sheetAt_no x b t S l0 T l1 K l2 ik fd tb tq bo so nn z hnz) ⟨Nat.le_of_ble_eq_true rfl, Nat.le_of_ble_eq_true rfl⟩ ⟨Nat.zero_le _, Nat.zero_le _⟩ hw 0 3 rfl rfl rfl rfl (Nat.le_of_ble_eq_true rfl) dX5_copy_9 (fun H locs hw => ?_)
      have hw : zHw x A s.heap (zHW x b t S l0 T l1 K l2 ik fd tb tq bo so nn) H locs := hw
      refine lv_astoreN (lv' := [(7, Value.null), (6, .ref (b 7)), (0, .ref (b 0)), (1, .int 2), (2, .int fr), (3, .int z), (4, .int to), (5, .int vn)]) hx hb dX5_copy_12 hl (by decide) rfl (fun ls hl => ?_)
      refine lv_aload hx hb dX5_copy_14 (lv_at hl 1 rfl) ?_
      refine lv_ifnull hx hb dX5_copy_16 ?_
      refine lv_aloadN hx hb dX5_copy_19 (lv_at hl 0 rfl) ?_
      refine lv_ifnonnullN hx hb dX5_copy_21 ?_
      refine lv_aload_n hx hb dX5_copy_24 rfl (lv_at hl 2 rfl) ?_
      refine lv_ldc (v := (-1000000001)) hx hb hown (hts _ ckX5_51) dX5_copy_25 ?_
      refine zcVwi (r := (-1000000001)) hx hb hml hown hts hl.1 hK hE hA lkX5_52 (c_X5_found x b t S l0 T l1 K l2 ik fd tb tq bo so nn (-1000000001) 0 (by decide) (by decide)) ⟨Nat.le_of_ble_eq_true rfl, Nat.le_of_ble_eq_true rfl⟩ ⟨Nat.zero_le _, Nat.zero_le _⟩ hw 0 3 rfl rfl rfl rfl (Nat.le_of_ble_eq_true rfl) dX5_copy_27 (fun H locs hw => ?_)
      have hw : zHw x A s.heap (zHW x b t S l0 T l1 K l2 ik (upd fd 0 (fd 0 + 1)) tb tq bo so nn) H locs := hw
      exact zFG.iret hx hb hr hlocks hQ hw rfl dX5_copy_30 (by rw [show zm_copy bo so nn fd 2 fr z to vn = ((-1000000001), nn, zFd fd 0) from (by unfold zm_copy; first | rw [if_neg (fun h => hnz h.2)] | rw [if_neg (fun h => hno h.1)])]; exact ⟨rfl, rfl⟩)
  · refine lv_aload_n hx hb dX5_copy_0 rfl (lv_at hl 0 rfl) ?_
    refine lv_iload_n hx hb dX5_copy_1 rfl (lv_at hl 1 rfl) ?_
    refine zcVwa hx hb hml hown hts hl.1 hK hE hA lkX5_219 (c_X5_sheetAt_3 x b t S l0 T l1 K l2 ik fd tb tq bo so nn) ⟨Nat.le_of_ble_eq_true rfl, Nat.le_of_ble_eq_true rfl⟩ ⟨Nat.zero_le _, Nat.zero_le _⟩ hw 0 3 rfl rfl rfl rfl (Nat.le_of_ble_eq_true rfl) dX5_copy_2 (fun H locs hw => ?_)
    have hw : zHw x A s.heap (zHW x b t S l0 T l1 K l2 ik fd tb tq bo so nn) H locs := hw
    refine lv_astore (lv' := [(6, .ref (b 8)), (0, .ref (b 0)), (1, .int 3), (2, .int fr), (3, .int z), (4, .int to), (5, .int vn)]) hx hb dX5_copy_5 hl (by decide) rfl (fun ls hl => ?_)
    rcases zcase4 z with rfl | rfl | rfl | rfl | hnz
    · refine lv_aload_n hx hb dX5_copy_7 rfl (lv_at hl 1 rfl) ?_
      refine lv_iload_n hx hb dX5_copy_8 rfl (lv_at hl 4 rfl) ?_
      refine zcVwa hx hb hml hown hts hl.1 hK hE hA lkX5_219 (c_X5_sheetAt_0 x b t S l0 T l1 K l2 ik fd tb tq bo so nn) ⟨Nat.le_of_ble_eq_true rfl, Nat.le_of_ble_eq_true rfl⟩ ⟨Nat.zero_le _, Nat.zero_le _⟩ hw 0 3 rfl rfl rfl rfl (Nat.le_of_ble_eq_true rfl) dX5_copy_9 (fun H locs hw => ?_)
      have hw : zHw x A s.heap (zHW x b t S l0 T l1 K l2 ik fd tb tq bo so nn) H locs := hw
      refine lv_astore (lv' := [(7, .ref (b 5)), (6, .ref (b 8)), (0, .ref (b 0)), (1, .int 3), (2, .int fr), (3, .int 0), (4, .int to), (5, .int vn)]) hx hb dX5_copy_12 hl (by decide) rfl (fun ls hl => ?_)
      refine lv_aload hx hb dX5_copy_14 (lv_at hl 1 rfl) ?_
      refine lv_ifnull hx hb dX5_copy_16 ?_
      refine lv_aload hx hb dX5_copy_19 (lv_at hl 0 rfl) ?_
      refine lv_ifnonnull (tgt := 31) hx hb dX5_copy_21 (by decide) ?_
      refine lv_aload hx hb dX5_copy_31 (lv_at hl 1 rfl) ?_
      refine zcVmi (r := zb (bo 3 = 0)) (C1 := (zOW x b t ik fd ++ (zTW x (t 0) S l0 ++ (zTW x (t 1) T l1 ++ (zTW x (t 2) K l2 ++ (zPW x b tb tq ++ (zSH x (b 5) (b 9) (bo 0) (so 0) (nn 0) ++ (zSH x (b 6) (b 10) (bo 1) (so 1) (nn 1) ++ zSH x (b 7) (b 11) (bo 2) (so 2) (nn 2))))))))) (C2 := []) hx hb hml hown hts hl.1 hK hE hA lkX5_228 (c_X1_isMissing x (b 8) (b 12) (bo 3) (so 3) (nn 3) ) ⟨Nat.le_of_ble_eq_true rfl, Nat.le_of_ble_eq_true rfl⟩ ⟨Nat.zero_le _, Nat.zero_le _⟩ hw 0 0 rfl rfl rfl rfl (Nat.le_of_ble_eq_true rfl) dX5_copy_33 (fun H locs hw => ?_)
      have hw : zHw x A s.heap (zHW x b t S l0 T l1 K l2 ik fd tb tq bo so nn) H locs := hw
      refine lv_if_ne (tgt := 47) hx hb dX5_copy_36 (by decide) (fun c36 => ?_) (fun c36 => ?_)
      · have c36 := zb_n0.mp c36
        refine lv_aload_n hx hb dX5_copy_47 rfl (lv_at hl 2 rfl) ?_
        refine lv_ldc (v := (-1000000006)) hx hb hown (hts _ ckX5_231) dX5_copy_48 ?_
        refine zcVwi (r := (-1000000006)) hx hb hml hown hts hl.1 hK hE hA lkX5_52 (c_X5_found x b t S l0 T l1 K l2 ik fd tb tq bo so nn (-1000000006) 5 (by decide) (by decide)) ⟨Nat.le_of_ble_eq_true rfl, Nat.le_of_ble_eq_true rfl⟩ ⟨Nat.zero_le _, Nat.zero_le _⟩ hw 0 3 rfl rfl rfl rfl (Nat.le_of_ble_eq_true rfl) dX5_copy_50 (fun H locs hw => ?_)
        have hw : zHw x A s.heap (zHW x b t S l0 T l1 K l2 ik (upd fd 5 (fd 5 + 1)) tb tq bo so nn) H locs := hw
        exact zFG.iret hx hb hr hlocks hQ hw rfl dX5_copy_53 (by rw [show zm_copy bo so nn fd 3 fr 0 to vn = ((-1000000006), nn, zFd fd 5) from (by unfold zm_copy; rw [if_pos ⟨by decide, by decide⟩, show zc (3 : Int32) = 3 from rfl, show zc (0 : Int32) = 0 from rfl, if_pos (by first | exact Or.inr c44 | exact Or.inl c36)])]; exact ⟨rfl, rfl⟩)
      · have c36 := zb_0.mp c36
        refine lv_aload hx hb dX5_copy_39 (lv_at hl 0 rfl) ?_
        refine zcVmi (r := zb (bo 0 = 0)) (C1 := (zOW x b t ik fd ++ (zTW x (t 0) S l0 ++ (zTW x (t 1) T l1 ++ (zTW x (t 2) K l2 ++ zPW x b tb tq))))) (C2 := (zSH x (b 6) (b 10) (bo 1) (so 1) (nn 1) ++ (zSH x (b 7) (b 11) (bo 2) (so 2) (nn 2) ++ zSH x (b 8) (b 12) (bo 3) (so 3) (nn 3)))) hx hb hml hown hts hl.1 hK hE hA lkX5_228 (c_X1_isMissing x (b 5) (b 9) (bo 0) (so 0) (nn 0) ) ⟨Nat.le_of_ble_eq_true rfl, Nat.le_of_ble_eq_true rfl⟩ ⟨Nat.zero_le _, Nat.zero_le _⟩ hw 0 0 rfl rfl rfl rfl (Nat.le_of_ble_eq_true rfl) dX5_copy_41 (fun H locs hw => ?_)
        have hw : zHw x A s.heap (zHW x b t S l0 T l1 K l2 ik fd tb tq bo so nn) H locs := hw
        refine lv_if_eq (tgt := 54) hx hb dX5_copy_44 (by decide) (fun c44 => ?_) (fun c44 => ?_)
        · have c44 := zb_0.mp c44
          refine lv_aload hx hb dX5_copy_54 (lv_at hl 1 rfl) ?_
          refine gfX5_239 hx hb hown hts hK hw 38 rfl rfl dX5_copy_56 ?_
          refine lv_aload hx hb dX5_copy_59 (lv_at hl 0 rfl) ?_
          refine gfX5_239 hx hb hown hts hK hw 32 rfl rfl dX5_copy_61 ?_
          refine lv_icmp_eq (tgt := 74) hx hb dX5_copy_64 (by decide) (fun c64 => ?_) (fun c64 => ?_)
          · obtain ⟨-, n1, hn1, hs1⟩ := hS 3 (by decide)
            obtain ⟨-, n2, hn2, hs2⟩ := hS 0 (by decide)
            refine lv_aload hx hb dX5_copy_74 (lv_at hl 1 rfl) ?_
            refine lv_iload_n hx hb dX5_copy_76 rfl (lv_at hl 4 rfl) ?_
            refine lv_iload hx hb dX5_copy_77 (lv_at hl 7 rfl) ?_
            refine zcVmi (r := zb (0 ≤ fr ∧ 0 ≤ vn ∧ vn ≤ so 3 ∧ fr ≤ so 3 - vn)) (C1 := (zOW x b t ik fd ++ (zTW x (t 0) S l0 ++ (zTW x (t 1) T l1 ++ (zTW x (t 2) K l2 ++ (zPW x b tb tq ++ (zSH x (b 5) (b 9) (bo 0) (so 0) (nn 0) ++ (zSH x (b 6) (b 10) (bo 1) (so 1) (nn 1) ++ zSH x (b 7) (b 11) (bo 2) (so 2) (nn 2))))))))) (C2 := []) hx hb hml hown hts hl.1 hK hE hA lkX5_242 (c_X1_hasSpan x (b 8) (b 12) (bo 3) (so 3) (nn 3) fr vn) ⟨Nat.le_of_ble_eq_true rfl, Nat.le_of_ble_eq_true rfl⟩ ⟨Nat.zero_le _, Nat.zero_le _⟩ hw 0 0 rfl rfl rfl rfl (Nat.le_of_ble_eq_true rfl) dX5_copy_79 (fun H locs hw => ?_)
            have hw : zHw x A s.heap (zHW x b t S l0 T l1 K l2 ik fd tb tq bo so nn) H locs := hw
            refine lv_if_eq (tgt := 97) hx hb dX5_copy_82 (by decide) (fun c82 => ?_) (fun c82 => ?_)
            · have c82 := zb_0.mp c82
              refine lv_aload_n hx hb dX5_copy_97 rfl (lv_at hl 2 rfl) ?_
              refine lv_ldc (v := (-1000000001)) hx hb hown (hts _ ckX5_51) dX5_copy_98 ?_
              refine zcVwi (r := (-1000000001)) hx hb hml hown hts hl.1 hK hE hA lkX5_52 (c_X5_found x b t S l0 T l1 K l2 ik fd tb tq bo so nn (-1000000001) 0 (by decide) (by decide)) ⟨Nat.le_of_ble_eq_true rfl, Nat.le_of_ble_eq_true rfl⟩ ⟨Nat.zero_le _, Nat.zero_le _⟩ hw 0 3 rfl rfl rfl rfl (Nat.le_of_ble_eq_true rfl) dX5_copy_100 (fun H locs hw => ?_)
              have hw : zHw x A s.heap (zHW x b t S l0 T l1 K l2 ik (upd fd 0 (fd 0 + 1)) tb tq bo so nn) H locs := hw
              exact zFG.iret hx hb hr hlocks hQ hw rfl dX5_copy_103 (by rw [show zm_copy bo so nn fd 3 fr 0 to vn = ((-1000000001), nn, zFd fd 0) from (by unfold zm_copy; rw [if_pos ⟨by decide, by decide⟩, show zc (3 : Int32) = 3 from rfl, show zc (0 : Int32) = 0 from rfl, if_neg (fun h => h.elim c36 c44), if_pos c64, if_neg (fun h => by first | exact c94 ((zspan hn2 hs2).mpr ⟨h.2.1, h.2.2.1, h.2.2.2.2⟩) | exact c82 ((zspan hn1 hs1).mpr ⟨h.1, h.2.2.1, h.2.2.2.1⟩))])]; exact ⟨rfl, rfl⟩)
            · have c82 := zb_n0.mp c82
              refine lv_aload hx hb dX5_copy_85 (lv_at hl 0 rfl) ?_
              refine lv_iload hx hb dX5_copy_87 (lv_at hl 6 rfl) ?_
              refine lv_iload hx hb dX5_copy_89 (lv_at hl 7 rfl) ?_
              refine zcVmi (r := zb (0 ≤ to ∧ 0 ≤ vn ∧ vn ≤ so 0 ∧ to ≤ so 0 - vn)) (C1 := (zOW x b t ik fd ++ (zTW x (t 0) S l0 ++ (zTW x (t 1) T l1 ++ (zTW x (t 2) K l2 ++ zPW x b tb tq))))) (C2 := (zSH x (b 6) (b 10) (bo 1) (so 1) (nn 1) ++ (zSH x (b 7) (b 11) (bo 2) (so 2) (nn 2) ++ zSH x (b 8) (b 12) (bo 3) (so 3) (nn 3)))) hx hb hml hown hts hl.1 hK hE hA lkX5_242 (c_X1_hasSpan x (b 5) (b 9) (bo 0) (so 0) (nn 0) to vn) ⟨Nat.le_of_ble_eq_true rfl, Nat.le_of_ble_eq_true rfl⟩ ⟨Nat.zero_le _, Nat.zero_le _⟩ hw 0 0 rfl rfl rfl rfl (Nat.le_of_ble_eq_true rfl) dX5_copy_91 (fun H locs hw => ?_)
              have hw : zHw x A s.heap (zHW x b t S l0 T l1 K l2 ik fd tb tq bo so nn) H locs := hw
              refine lv_if_ne (tgt := 104) hx hb dX5_copy_94 (by decide) (fun c94 => ?_) (fun c94 => ?_)
              · have c94 := zb_n0.mp c94
                have c82h := (zspan hn1 hs1).mp c82
                have c94h := (zspan hn2 hs2).mp c94
                obtain ⟨i1, k1, rfl, rfl, hb1⟩ := zspan_nat hn1 hs1 c82
                obtain ⟨j1, k2, rfl, ek, hb2⟩ := zspan_nat hn2 hs2 c94
                have ek : k1 = k2 := (nI_eq (by omega) (by omega)).mp ek
                subst ek
                refine lv_aload hx hb dX5_copy_104 (lv_at hl 1 rfl) ?_
                refine gfX5_232 hx hb hown hts hK hw 38 rfl rfl dX5_copy_106 ?_
                refine lv_iload_n hx hb dX5_copy_109 rfl (lv_at hl 4 rfl) ?_
                refine lv_aload hx hb dX5_copy_110 (lv_at hl 0 rfl) ?_
                refine gfX5_232 hx hb hown hts hK hw 32 rfl rfl dX5_copy_112 ?_
                refine lv_iload hx hb dX5_copy_115 (lv_at hl 6 rfl) ?_
                refine lv_iload hx hb dX5_copy_117 (lv_at hl 7 rfl) ?_
                refine zcpyL hx hb (hml.trans hl.1.symm) hown hts acX5 hK hw 39 33 i1 j1 k1 rfl rfl (by omega) (by omega) ⟨Nat.le_of_ble_eq_true rfl, Nat.le_of_ble_eq_true rfl⟩ dX5_copy_119 (fun H locs hw => ?_)
                have hw : zHw x A s.heap (zHW x b t S l0 T l1 K l2 ik fd tb tq bo so (zVL nn 0 (zcp (nn 3) (nn 0) i1 j1 k1))) H locs := hw
                refine lv_iload hx hb dX5_copy_122 (lv_at hl 7 rfl) ?_
                exact zFG.iret hx hb hr hlocks hQ hw rfl dX5_copy_124 (by rw [show zm_copy bo so nn fd 3 (nI i1) 0 (nI j1) (nI k1) = (nI k1, zVL nn 0 (zcp (nn 3) (nn 0) i1 j1 k1), fd) from (by unfold zm_copy; rw [if_pos ⟨by decide, by decide⟩, show zc (3 : Int32) = 3 from rfl, show zc (0 : Int32) = 0 from rfl, if_neg (fun h => h.elim c36 c44), if_pos c64, if_pos ⟨c82h.1, c94h.1, c82h.2.1, c82h.2.2, c94h.2.2⟩, zc_nI (show i1 < 2147483648 by omega), zc_nI (show j1 < 2147483648 by omega), zc_nI (show k1 < 2147483648 by omega)])]; exact ⟨rfl, rfl⟩)
              · have c94 := zb_0.mp c94
                refine lv_aload_n hx hb dX5_copy_97 rfl (lv_at hl 2 rfl) ?_
                refine lv_ldc (v := (-1000000001)) hx hb hown (hts _ ckX5_51) dX5_copy_98 ?_
                refine zcVwi (r := (-1000000001)) hx hb hml hown hts hl.1 hK hE hA lkX5_52 (c_X5_found x b t S l0 T l1 K l2 ik fd tb tq bo so nn (-1000000001) 0 (by decide) (by decide)) ⟨Nat.le_of_ble_eq_true rfl, Nat.le_of_ble_eq_true rfl⟩ ⟨Nat.zero_le _, Nat.zero_le _⟩ hw 0 3 rfl rfl rfl rfl (Nat.le_of_ble_eq_true rfl) dX5_copy_100 (fun H locs hw => ?_)
                have hw : zHw x A s.heap (zHW x b t S l0 T l1 K l2 ik (upd fd 0 (fd 0 + 1)) tb tq bo so nn) H locs := hw
                exact zFG.iret hx hb hr hlocks hQ hw rfl dX5_copy_103 (by rw [show zm_copy bo so nn fd 3 fr 0 to vn = ((-1000000001), nn, zFd fd 0) from (by unfold zm_copy; rw [if_pos ⟨by decide, by decide⟩, show zc (3 : Int32) = 3 from rfl, show zc (0 : Int32) = 0 from rfl, if_neg (fun h => h.elim c36 c44), if_pos c64, if_neg (fun h => by first | exact c94 ((zspan hn2 hs2).mpr ⟨h.2.1, h.2.2.1, h.2.2.2.2⟩) | exact c82 ((zspan hn1 hs1).mpr ⟨h.1, h.2.2.1, h.2.2.2.1⟩))])]; exact ⟨rfl, rfl⟩)
          · refine lv_aload_n hx hb dX5_copy_67 rfl (lv_at hl 2 rfl) ?_
            refine lv_ldc (v := (-1000000003)) hx hb hown (hts _ ckX5_123) dX5_copy_68 ?_
            refine zcVwi (r := (-1000000003)) hx hb hml hown hts hl.1 hK hE hA lkX5_52 (c_X5_found x b t S l0 T l1 K l2 ik fd tb tq bo so nn (-1000000003) 2 (by decide) (by decide)) ⟨Nat.le_of_ble_eq_true rfl, Nat.le_of_ble_eq_true rfl⟩ ⟨Nat.zero_le _, Nat.zero_le _⟩ hw 0 3 rfl rfl rfl rfl (Nat.le_of_ble_eq_true rfl) dX5_copy_70 (fun H locs hw => ?_)
            have hw : zHw x A s.heap (zHW x b t S l0 T l1 K l2 ik (upd fd 2 (fd 2 + 1)) tb tq bo so nn) H locs := hw
            exact zFG.iret hx hb hr hlocks hQ hw rfl dX5_copy_73 (by rw [show zm_copy bo so nn fd 3 fr 0 to vn = ((-1000000003), nn, zFd fd 2) from (by unfold zm_copy; rw [if_pos ⟨by decide, by decide⟩, show zc (3 : Int32) = 3 from rfl, show zc (0 : Int32) = 0 from rfl, if_neg (fun h => h.elim c36 c44), if_neg c64])]; exact ⟨rfl, rfl⟩)
        · have c44 := zb_n0.mp c44
          refine lv_aload_n hx hb dX5_copy_47 rfl (lv_at hl 2 rfl) ?_
          refine lv_ldc (v := (-1000000006)) hx hb hown (hts _ ckX5_231) dX5_copy_48 ?_
          refine zcVwi (r := (-1000000006)) hx hb hml hown hts hl.1 hK hE hA lkX5_52 (c_X5_found x b t S l0 T l1 K l2 ik fd tb tq bo so nn (-1000000006) 5 (by decide) (by decide)) ⟨Nat.le_of_ble_eq_true rfl, Nat.le_of_ble_eq_true rfl⟩ ⟨Nat.zero_le _, Nat.zero_le _⟩ hw 0 3 rfl rfl rfl rfl (Nat.le_of_ble_eq_true rfl) dX5_copy_50 (fun H locs hw => ?_)
          have hw : zHw x A s.heap (zHW x b t S l0 T l1 K l2 ik (upd fd 5 (fd 5 + 1)) tb tq bo so nn) H locs := hw
          exact zFG.iret hx hb hr hlocks hQ hw rfl dX5_copy_53 (by rw [show zm_copy bo so nn fd 3 fr 0 to vn = ((-1000000006), nn, zFd fd 5) from (by unfold zm_copy; rw [if_pos ⟨by decide, by decide⟩, show zc (3 : Int32) = 3 from rfl, show zc (0 : Int32) = 0 from rfl, if_pos (by first | exact Or.inr c44 | exact Or.inl c36)])]; exact ⟨rfl, rfl⟩)
    · refine lv_aload_n hx hb dX5_copy_7 rfl (lv_at hl 1 rfl) ?_
      refine lv_iload_n hx hb dX5_copy_8 rfl (lv_at hl 4 rfl) ?_
      refine zcVwa hx hb hml hown hts hl.1 hK hE hA lkX5_219 (c_X5_sheetAt_1 x b t S l0 T l1 K l2 ik fd tb tq bo so nn) ⟨Nat.le_of_ble_eq_true rfl, Nat.le_of_ble_eq_true rfl⟩ ⟨Nat.zero_le _, Nat.zero_le _⟩ hw 0 3 rfl rfl rfl rfl (Nat.le_of_ble_eq_true rfl) dX5_copy_9 (fun H locs hw => ?_)
      have hw : zHw x A s.heap (zHW x b t S l0 T l1 K l2 ik fd tb tq bo so nn) H locs := hw
      refine lv_astore (lv' := [(7, .ref (b 6)), (6, .ref (b 8)), (0, .ref (b 0)), (1, .int 3), (2, .int fr), (3, .int 1), (4, .int to), (5, .int vn)]) hx hb dX5_copy_12 hl (by decide) rfl (fun ls hl => ?_)
      refine lv_aload hx hb dX5_copy_14 (lv_at hl 1 rfl) ?_
      refine lv_ifnull hx hb dX5_copy_16 ?_
      refine lv_aload hx hb dX5_copy_19 (lv_at hl 0 rfl) ?_
      refine lv_ifnonnull (tgt := 31) hx hb dX5_copy_21 (by decide) ?_
      refine lv_aload hx hb dX5_copy_31 (lv_at hl 1 rfl) ?_
      refine zcVmi (r := zb (bo 3 = 0)) (C1 := (zOW x b t ik fd ++ (zTW x (t 0) S l0 ++ (zTW x (t 1) T l1 ++ (zTW x (t 2) K l2 ++ (zPW x b tb tq ++ (zSH x (b 5) (b 9) (bo 0) (so 0) (nn 0) ++ (zSH x (b 6) (b 10) (bo 1) (so 1) (nn 1) ++ zSH x (b 7) (b 11) (bo 2) (so 2) (nn 2))))))))) (C2 := []) hx hb hml hown hts hl.1 hK hE hA lkX5_228 (c_X1_isMissing x (b 8) (b 12) (bo 3) (so 3) (nn 3) ) ⟨Nat.le_of_ble_eq_true rfl, Nat.le_of_ble_eq_true rfl⟩ ⟨Nat.zero_le _, Nat.zero_le _⟩ hw 0 0 rfl rfl rfl rfl (Nat.le_of_ble_eq_true rfl) dX5_copy_33 (fun H locs hw => ?_)
      have hw : zHw x A s.heap (zHW x b t S l0 T l1 K l2 ik fd tb tq bo so nn) H locs := hw
      refine lv_if_ne (tgt := 47) hx hb dX5_copy_36 (by decide) (fun c36 => ?_) (fun c36 => ?_)
      · have c36 := zb_n0.mp c36
        refine lv_aload_n hx hb dX5_copy_47 rfl (lv_at hl 2 rfl) ?_
        refine lv_ldc (v := (-1000000006)) hx hb hown (hts _ ckX5_231) dX5_copy_48 ?_
        refine zcVwi (r := (-1000000006)) hx hb hml hown hts hl.1 hK hE hA lkX5_52 (c_X5_found x b t S l0 T l1 K l2 ik fd tb tq bo so nn (-1000000006) 5 (by decide) (by decide)) ⟨Nat.le_of_ble_eq_true rfl, Nat.le_of_ble_eq_true rfl⟩ ⟨Nat.zero_le _, Nat.zero_le _⟩ hw 0 3 rfl rfl rfl rfl (Nat.le_of_ble_eq_true rfl) dX5_copy_50 (fun H locs hw => ?_)
        have hw : zHw x A s.heap (zHW x b t S l0 T l1 K l2 ik (upd fd 5 (fd 5 + 1)) tb tq bo so nn) H locs := hw
        exact zFG.iret hx hb hr hlocks hQ hw rfl dX5_copy_53 (by rw [show zm_copy bo so nn fd 3 fr 1 to vn = ((-1000000006), nn, zFd fd 5) from (by unfold zm_copy; rw [if_pos ⟨by decide, by decide⟩, show zc (3 : Int32) = 3 from rfl, show zc (1 : Int32) = 1 from rfl, if_pos (by first | exact Or.inr c44 | exact Or.inl c36)])]; exact ⟨rfl, rfl⟩)
      · have c36 := zb_0.mp c36
        refine lv_aload hx hb dX5_copy_39 (lv_at hl 0 rfl) ?_
        refine zcVmi (r := zb (bo 1 = 0)) (C1 := (zOW x b t ik fd ++ (zTW x (t 0) S l0 ++ (zTW x (t 1) T l1 ++ (zTW x (t 2) K l2 ++ (zPW x b tb tq ++ zSH x (b 5) (b 9) (bo 0) (so 0) (nn 0))))))) (C2 := (zSH x (b 7) (b 11) (bo 2) (so 2) (nn 2) ++ zSH x (b 8) (b 12) (bo 3) (so 3) (nn 3))) hx hb hml hown hts hl.1 hK hE hA lkX5_228 (c_X1_isMissing x (b 6) (b 10) (bo 1) (so 1) (nn 1) ) ⟨Nat.le_of_ble_eq_true rfl, Nat.le_of_ble_eq_true rfl⟩ ⟨Nat.zero_le _, Nat.zero_le _⟩ hw 0 0 rfl rfl rfl rfl (Nat.le_of_ble_eq_true rfl) dX5_copy_41 (fun H locs hw => ?_)
        have hw : zHw x A s.heap (zHW x b t S l0 T l1 K l2 ik fd tb tq bo so nn) H locs := hw
        refine lv_if_eq (tgt := 54) hx hb dX5_copy_44 (by decide) (fun c44 => ?_) (fun c44 => ?_)
        · have c44 := zb_0.mp c44
          refine lv_aload hx hb dX5_copy_54 (lv_at hl 1 rfl) ?_
          refine gfX5_239 hx hb hown hts hK hw 38 rfl rfl dX5_copy_56 ?_
          refine lv_aload hx hb dX5_copy_59 (lv_at hl 0 rfl) ?_
          refine gfX5_239 hx hb hown hts hK hw 34 rfl rfl dX5_copy_61 ?_
          refine lv_icmp_eq (tgt := 74) hx hb dX5_copy_64 (by decide) (fun c64 => ?_) (fun c64 => ?_)
          · obtain ⟨-, n1, hn1, hs1⟩ := hS 3 (by decide)
            obtain ⟨-, n2, hn2, hs2⟩ := hS 1 (by decide)
            refine lv_aload hx hb dX5_copy_74 (lv_at hl 1 rfl) ?_
            refine lv_iload_n hx hb dX5_copy_76 rfl (lv_at hl 4 rfl) ?_
            refine lv_iload hx hb dX5_copy_77 (lv_at hl 7 rfl) ?_
            refine zcVmi (r := zb (0 ≤ fr ∧ 0 ≤ vn ∧ vn ≤ so 3 ∧ fr ≤ so 3 - vn)) (C1 := (zOW x b t ik fd ++ (zTW x (t 0) S l0 ++ (zTW x (t 1) T l1 ++ (zTW x (t 2) K l2 ++ (zPW x b tb tq ++ (zSH x (b 5) (b 9) (bo 0) (so 0) (nn 0) ++ (zSH x (b 6) (b 10) (bo 1) (so 1) (nn 1) ++ zSH x (b 7) (b 11) (bo 2) (so 2) (nn 2))))))))) (C2 := []) hx hb hml hown hts hl.1 hK hE hA lkX5_242 (c_X1_hasSpan x (b 8) (b 12) (bo 3) (so 3) (nn 3) fr vn) ⟨Nat.le_of_ble_eq_true rfl, Nat.le_of_ble_eq_true rfl⟩ ⟨Nat.zero_le _, Nat.zero_le _⟩ hw 0 0 rfl rfl rfl rfl (Nat.le_of_ble_eq_true rfl) dX5_copy_79 (fun H locs hw => ?_)
            have hw : zHw x A s.heap (zHW x b t S l0 T l1 K l2 ik fd tb tq bo so nn) H locs := hw
            refine lv_if_eq (tgt := 97) hx hb dX5_copy_82 (by decide) (fun c82 => ?_) (fun c82 => ?_)
            · have c82 := zb_0.mp c82
              refine lv_aload_n hx hb dX5_copy_97 rfl (lv_at hl 2 rfl) ?_
              refine lv_ldc (v := (-1000000001)) hx hb hown (hts _ ckX5_51) dX5_copy_98 ?_
              refine zcVwi (r := (-1000000001)) hx hb hml hown hts hl.1 hK hE hA lkX5_52 (c_X5_found x b t S l0 T l1 K l2 ik fd tb tq bo so nn (-1000000001) 0 (by decide) (by decide)) ⟨Nat.le_of_ble_eq_true rfl, Nat.le_of_ble_eq_true rfl⟩ ⟨Nat.zero_le _, Nat.zero_le _⟩ hw 0 3 rfl rfl rfl rfl (Nat.le_of_ble_eq_true rfl) dX5_copy_100 (fun H locs hw => ?_)
              have hw : zHw x A s.heap (zHW x b t S l0 T l1 K l2 ik (upd fd 0 (fd 0 + 1)) tb tq bo so nn) H locs := hw
              exact zFG.iret hx hb hr hlocks hQ hw rfl dX5_copy_103 (by rw [show zm_copy bo so nn fd 3 fr 1 to vn = ((-1000000001), nn, zFd fd 0) from (by unfold zm_copy; rw [if_pos ⟨by decide, by decide⟩, show zc (3 : Int32) = 3 from rfl, show zc (1 : Int32) = 1 from rfl, if_neg (fun h => h.elim c36 c44), if_pos c64, if_neg (fun h => by first | exact c94 ((zspan hn2 hs2).mpr ⟨h.2.1, h.2.2.1, h.2.2.2.2⟩) | exact c82 ((zspan hn1 hs1).mpr ⟨h.1, h.2.2.1, h.2.2.2.1⟩))])]; exact ⟨rfl, rfl⟩)
            · have c82 := zb_n0.mp c82
              refine lv_aload hx hb dX5_copy_85 (lv_at hl 0 rfl) ?_
              refine lv_iload hx hb dX5_copy_87 (lv_at hl 6 rfl) ?_
              refine lv_iload hx hb dX5_copy_89 (lv_at hl 7 rfl) ?_
              refine zcVmi (r := zb (0 ≤ to ∧ 0 ≤ vn ∧ vn ≤ so 1 ∧ to ≤ so 1 - vn)) (C1 := (zOW x b t ik fd ++ (zTW x (t 0) S l0 ++ (zTW x (t 1) T l1 ++ (zTW x (t 2) K l2 ++ (zPW x b tb tq ++ zSH x (b 5) (b 9) (bo 0) (so 0) (nn 0))))))) (C2 := (zSH x (b 7) (b 11) (bo 2) (so 2) (nn 2) ++ zSH x (b 8) (b 12) (bo 3) (so 3) (nn 3))) hx hb hml hown hts hl.1 hK hE hA lkX5_242 (c_X1_hasSpan x (b 6) (b 10) (bo 1) (so 1) (nn 1) to vn) ⟨Nat.le_of_ble_eq_true rfl, Nat.le_of_ble_eq_true rfl⟩ ⟨Nat.zero_le _, Nat.zero_le _⟩ hw 0 0 rfl rfl rfl rfl (Nat.le_of_ble_eq_true rfl) dX5_copy_91 (fun H locs hw => ?_)
              have hw : zHw x A s.heap (zHW x b t S l0 T l1 K l2 ik fd tb tq bo so nn) H locs := hw
              refine lv_if_ne (tgt := 104) hx hb dX5_copy_94 (by decide) (fun c94 => ?_) (fun c94 => ?_)
              · have c94 := zb_n0.mp c94
                have c82h := (zspan hn1 hs1).mp c82
                have c94h := (zspan hn2 hs2).mp c94
                obtain ⟨i1, k1, rfl, rfl, hb1⟩ := zspan_nat hn1 hs1 c82
                obtain ⟨j1, k2, rfl, ek, hb2⟩ := zspan_nat hn2 hs2 c94
                have ek : k1 = k2 := (nI_eq (by omega) (by omega)).mp ek
                subst ek
                refine lv_aload hx hb dX5_copy_104 (lv_at hl 1 rfl) ?_
                refine gfX5_232 hx hb hown hts hK hw 38 rfl rfl dX5_copy_106 ?_
                refine lv_iload_n hx hb dX5_copy_109 rfl (lv_at hl 4 rfl) ?_
                refine lv_aload hx hb dX5_copy_110 (lv_at hl 0 rfl) ?_
                refine gfX5_232 hx hb hown hts hK hw 34 rfl rfl dX5_copy_112 ?_
                refine lv_iload hx hb dX5_copy_115 (lv_at hl 6 rfl) ?_
                refine lv_iload hx hb dX5_copy_117 (lv_at hl 7 rfl) ?_
                refine zcpyL hx hb (hml.trans hl.1.symm) hown hts acX5 hK hw 39 35 i1 j1 k1 rfl rfl (by omega) (by omega) ⟨Nat.le_of_ble_eq_true rfl, Nat.le_of_ble_eq_true rfl⟩ dX5_copy_119 (fun H locs hw => ?_)
                have hw : zHw x A s.heap (zHW x b t S l0 T l1 K l2 ik fd tb tq bo so (zVL nn 1 (zcp (nn 3) (nn 1) i1 j1 k1))) H locs := hw
                refine lv_iload hx hb dX5_copy_122 (lv_at hl 7 rfl) ?_
                exact zFG.iret hx hb hr hlocks hQ hw rfl dX5_copy_124 (by rw [show zm_copy bo so nn fd 3 (nI i1) 1 (nI j1) (nI k1) = (nI k1, zVL nn 1 (zcp (nn 3) (nn 1) i1 j1 k1), fd) from (by unfold zm_copy; rw [if_pos ⟨by decide, by decide⟩, show zc (3 : Int32) = 3 from rfl, show zc (1 : Int32) = 1 from rfl, if_neg (fun h => h.elim c36 c44), if_pos c64, if_pos ⟨c82h.1, c94h.1, c82h.2.1, c82h.2.2, c94h.2.2⟩, zc_nI (show i1 < 2147483648 by omega), zc_nI (show j1 < 2147483648 by omega), zc_nI (show k1 < 2147483648 by omega)])]; exact ⟨rfl, rfl⟩)
              · have c94 := zb_0.mp c94
                refine lv_aload_n hx hb dX5_copy_97 rfl (lv_at hl 2 rfl) ?_
                refine lv_ldc (v := (-1000000001)) hx hb hown (hts _ ckX5_51) dX5_copy_98 ?_
                refine zcVwi (r := (-1000000001)) hx hb hml hown hts hl.1 hK hE hA lkX5_52 (c_X5_found x b t S l0 T l1 K l2 ik fd tb tq bo so nn (-1000000001) 0 (by decide) (by decide)) ⟨Nat.le_of_ble_eq_true rfl, Nat.le_of_ble_eq_true rfl⟩ ⟨Nat.zero_le _, Nat.zero_le _⟩ hw 0 3 rfl rfl rfl rfl (Nat.le_of_ble_eq_true rfl) dX5_copy_100 (fun H locs hw => ?_)
                have hw : zHw x A s.heap (zHW x b t S l0 T l1 K l2 ik (upd fd 0 (fd 0 + 1)) tb tq bo so nn) H locs := hw
                exact zFG.iret hx hb hr hlocks hQ hw rfl dX5_copy_103 (by rw [show zm_copy bo so nn fd 3 fr 1 to vn = ((-1000000001), nn, zFd fd 0) from (by unfold zm_copy; rw [if_pos ⟨by decide, by decide⟩, show zc (3 : Int32) = 3 from rfl, show zc (1 : Int32) = 1 from rfl, if_neg (fun h => h.elim c36 c44), if_pos c64, if_neg (fun h => by first | exact c94 ((zspan hn2 hs2).mpr ⟨h.2.1, h.2.2.1, h.2.2.2.2⟩) | exact c82 ((zspan hn1 hs1).mpr ⟨h.1, h.2.2.1, h.2.2.2.1⟩))])]; exact ⟨rfl, rfl⟩)
          · refine lv_aload_n hx hb dX5_copy_67 rfl (lv_at hl 2 rfl) ?_
            refine lv_ldc (v := (-1000000003)) hx hb hown (hts _ ckX5_123) dX5_copy_68 ?_
            refine zcVwi (r := (-1000000003)) hx hb hml hown hts hl.1 hK hE hA lkX5_52 (c_X5_found x b t S l0 T l1 K l2 ik fd tb tq bo so nn (-1000000003) 2 (by decide) (by decide)) ⟨Nat.le_of_ble_eq_true rfl, Nat.le_of_ble_eq_true rfl⟩ ⟨Nat.zero_le _, Nat.zero_le _⟩ hw 0 3 rfl rfl rfl rfl (Nat.le_of_ble_eq_true rfl) dX5_copy_70 (fun H locs hw => ?_)
            have hw : zHw x A s.heap (zHW x b t S l0 T l1 K l2 ik (upd fd 2 (fd 2 + 1)) tb tq bo so nn) H locs := hw
            exact zFG.iret hx hb hr hlocks hQ hw rfl dX5_copy_73 (by rw [show zm_copy bo so nn fd 3 fr 1 to vn = ((-1000000003), nn, zFd fd 2) from (by unfold zm_copy; rw [if_pos ⟨by decide, by decide⟩, show zc (3 : Int32) = 3 from rfl, show zc (1 : Int32) = 1 from rfl, if_neg (fun h => h.elim c36 c44), if_neg c64])]; exact ⟨rfl, rfl⟩)
        · have c44 := zb_n0.mp c44
          refine lv_aload_n hx hb dX5_copy_47 rfl (lv_at hl 2 rfl) ?_
          refine lv_ldc (v := (-1000000006)) hx hb hown (hts _ ckX5_231) dX5_copy_48 ?_
          refine zcVwi (r := (-1000000006)) hx hb hml hown hts hl.1 hK hE hA lkX5_52 (c_X5_found x b t S l0 T l1 K l2 ik fd tb tq bo so nn (-1000000006) 5 (by decide) (by decide)) ⟨Nat.le_of_ble_eq_true rfl, Nat.le_of_ble_eq_true rfl⟩ ⟨Nat.zero_le _, Nat.zero_le _⟩ hw 0 3 rfl rfl rfl rfl (Nat.le_of_ble_eq_true rfl) dX5_copy_50 (fun H locs hw => ?_)
          have hw : zHw x A s.heap (zHW x b t S l0 T l1 K l2 ik (upd fd 5 (fd 5 + 1)) tb tq bo so nn) H locs := hw
          exact zFG.iret hx hb hr hlocks hQ hw rfl dX5_copy_53 (by rw [show zm_copy bo so nn fd 3 fr 1 to vn = ((-1000000006), nn, zFd fd 5) from (by unfold zm_copy; rw [if_pos ⟨by decide, by decide⟩, show zc (3 : Int32) = 3 from rfl, show zc (1 : Int32) = 1 from rfl, if_pos (by first | exact Or.inr c44 | exact Or.inl c36)])]; exact ⟨rfl, rfl⟩)
    · refine lv_aload_n hx hb dX5_copy_7 rfl (lv_at hl 1 rfl) ?_
      refine lv_iload_n hx hb dX5_copy_8 rfl (lv_at hl 4 rfl) ?_
      refine zcVwa hx hb hml hown hts hl.1 hK hE hA lkX5_219 (c_X5_sheetAt_2 x b t S l0 T l1 K l2 ik fd tb tq bo so nn) ⟨Nat.le_of_ble_eq_true rfl, Nat.le_of_ble_eq_true rfl⟩ ⟨Nat.zero_le _, Nat.zero_le _⟩ hw 0 3 rfl rfl rfl rfl (Nat.le_of_ble_eq_true rfl) dX5_copy_9 (fun H locs hw => ?_)
      have hw : zHw x A s.heap (zHW x b t S l0 T l1 K l2 ik fd tb tq bo so nn) H locs := hw
      refine lv_astore (lv' := [(7, .ref (b 7)), (6, .ref (b 8)), (0, .ref (b 0)), (1, .int 3), (2, .int fr), (3, .int 2), (4, .int to), (5, .int vn)]) hx hb dX5_copy_12 hl (by decide) rfl (fun ls hl => ?_)
      refine lv_aload hx hb dX5_copy_14 (lv_at hl 1 rfl) ?_
      refine lv_ifnull hx hb dX5_copy_16 ?_
      refine lv_aload hx hb dX5_copy_19 (lv_at hl 0 rfl) ?_
      refine lv_ifnonnull (tgt := 31) hx hb dX5_copy_21 (by decide) ?_
      refine lv_aload hx hb dX5_copy_31 (lv_at hl 1 rfl) ?_
      refine zcVmi (r := zb (bo 3 = 0)) (C1 := (zOW x b t ik fd ++ (zTW x (t 0) S l0 ++ (zTW x (t 1) T l1 ++ (zTW x (t 2) K l2 ++ (zPW x b tb tq ++ (zSH x (b 5) (b 9) (bo 0) (so 0) (nn 0) ++ (zSH x (b 6) (b 10) (bo 1) (so 1) (nn 1) ++ zSH x (b 7) (b 11) (bo 2) (so 2) (nn 2))))))))) (C2 := []) hx hb hml hown hts hl.1 hK hE hA lkX5_228 (c_X1_isMissing x (b 8) (b 12) (bo 3) (so 3) (nn 3) ) ⟨Nat.le_of_ble_eq_true rfl, Nat.le_of_ble_eq_true rfl⟩ ⟨Nat.zero_le _, Nat.zero_le _⟩ hw 0 0 rfl rfl rfl rfl (Nat.le_of_ble_eq_true rfl) dX5_copy_33 (fun H locs hw => ?_)
      have hw : zHw x A s.heap (zHW x b t S l0 T l1 K l2 ik fd tb tq bo so nn) H locs := hw
      refine lv_if_ne (tgt := 47) hx hb dX5_copy_36 (by decide) (fun c36 => ?_) (fun c36 => ?_)
      · have c36 := zb_n0.mp c36
        refine lv_aload_n hx hb dX5_copy_47 rfl (lv_at hl 2 rfl) ?_
        refine lv_ldc (v := (-1000000006)) hx hb hown (hts _ ckX5_231) dX5_copy_48 ?_
        refine zcVwi (r := (-1000000006)) hx hb hml hown hts hl.1 hK hE hA lkX5_52 (c_X5_found x b t S l0 T l1 K l2 ik fd tb tq bo so nn (-1000000006) 5 (by decide) (by decide)) ⟨Nat.le_of_ble_eq_true rfl, Nat.le_of_ble_eq_true rfl⟩ ⟨Nat.zero_le _, Nat.zero_le _⟩ hw 0 3 rfl rfl rfl rfl (Nat.le_of_ble_eq_true rfl) dX5_copy_50 (fun H locs hw => ?_)
        have hw : zHw x A s.heap (zHW x b t S l0 T l1 K l2 ik (upd fd 5 (fd 5 + 1)) tb tq bo so nn) H locs := hw
        exact zFG.iret hx hb hr hlocks hQ hw rfl dX5_copy_53 (by rw [show zm_copy bo so nn fd 3 fr 2 to vn = ((-1000000006), nn, zFd fd 5) from (by unfold zm_copy; rw [if_pos ⟨by decide, by decide⟩, show zc (3 : Int32) = 3 from rfl, show zc (2 : Int32) = 2 from rfl, if_pos (by first | exact Or.inr c44 | exact Or.inl c36)])]; exact ⟨rfl, rfl⟩)
      · have c36 := zb_0.mp c36
        refine lv_aload hx hb dX5_copy_39 (lv_at hl 0 rfl) ?_
        refine zcVmi (r := zb (bo 2 = 0)) (C1 := (zOW x b t ik fd ++ (zTW x (t 0) S l0 ++ (zTW x (t 1) T l1 ++ (zTW x (t 2) K l2 ++ (zPW x b tb tq ++ (zSH x (b 5) (b 9) (bo 0) (so 0) (nn 0) ++ zSH x (b 6) (b 10) (bo 1) (so 1) (nn 1)))))))) (C2 := (zSH x (b 8) (b 12) (bo 3) (so 3) (nn 3))) hx hb hml hown hts hl.1 hK hE hA lkX5_228 (c_X1_isMissing x (b 7) (b 11) (bo 2) (so 2) (nn 2) ) ⟨Nat.le_of_ble_eq_true rfl, Nat.le_of_ble_eq_true rfl⟩ ⟨Nat.zero_le _, Nat.zero_le _⟩ hw 0 0 rfl rfl rfl rfl (Nat.le_of_ble_eq_true rfl) dX5_copy_41 (fun H locs hw => ?_)
        have hw : zHw x A s.heap (zHW x b t S l0 T l1 K l2 ik fd tb tq bo so nn) H locs := hw
        refine lv_if_eq (tgt := 54) hx hb dX5_copy_44 (by decide) (fun c44 => ?_) (fun c44 => ?_)
        · have c44 := zb_0.mp c44
          refine lv_aload hx hb dX5_copy_54 (lv_at hl 1 rfl) ?_
          refine gfX5_239 hx hb hown hts hK hw 38 rfl rfl dX5_copy_56 ?_
          refine lv_aload hx hb dX5_copy_59 (lv_at hl 0 rfl) ?_
          refine gfX5_239 hx hb hown hts hK hw 36 rfl rfl dX5_copy_61 ?_
          refine lv_icmp_eq (tgt := 74) hx hb dX5_copy_64 (by decide) (fun c64 => ?_) (fun c64 => ?_)
          · obtain ⟨-, n1, hn1, hs1⟩ := hS 3 (by decide)
            obtain ⟨-, n2, hn2, hs2⟩ := hS 2 (by decide)
            refine lv_aload hx hb dX5_copy_74 (lv_at hl 1 rfl) ?_
            refine lv_iload_n hx hb dX5_copy_76 rfl (lv_at hl 4 rfl) ?_
            refine lv_iload hx hb dX5_copy_77 (lv_at hl 7 rfl) ?_
            refine zcVmi (r := zb (0 ≤ fr ∧ 0 ≤ vn ∧ vn ≤ so 3 ∧ fr ≤ so 3 - vn)) (C1 := (zOW x b t ik fd ++ (zTW x (t 0) S l0 ++ (zTW x (t 1) T l1 ++ (zTW x (t 2) K l2 ++ (zPW x b tb tq ++ (zSH x (b 5) (b 9) (bo 0) (so 0) (nn 0) ++ (zSH x (b 6) (b 10) (bo 1) (so 1) (nn 1) ++ zSH x (b 7) (b 11) (bo 2) (so 2) (nn 2))))))))) (C2 := []) hx hb hml hown hts hl.1 hK hE hA lkX5_242 (c_X1_hasSpan x (b 8) (b 12) (bo 3) (so 3) (nn 3) fr vn) ⟨Nat.le_of_ble_eq_true rfl, Nat.le_of_ble_eq_true rfl⟩ ⟨Nat.zero_le _, Nat.zero_le _⟩ hw 0 0 rfl rfl rfl rfl (Nat.le_of_ble_eq_true rfl) dX5_copy_79 (fun H locs hw => ?_)
            have hw : zHw x A s.heap (zHW x b t S l0 T l1 K l2 ik fd tb tq bo so nn) H locs := hw
            refine lv_if_eq (tgt := 97) hx hb dX5_copy_82 (by decide) (fun c82 => ?_) (fun c82 => ?_)
            · have c82 := zb_0.mp c82
              refine lv_aload_n hx hb dX5_copy_97 rfl (lv_at hl 2 rfl) ?_
              refine lv_ldc (v := (-1000000001)) hx hb hown (hts _ ckX5_51) dX5_copy_98 ?_
              refine zcVwi (r := (-1000000001)) hx hb hml hown hts hl.1 hK hE hA lkX5_52 (c_X5_found x b t S l0 T l1 K l2 ik fd tb tq bo so nn (-1000000001) 0 (by decide) (by decide)) ⟨Nat.le_of_ble_eq_true rfl, Nat.le_of_ble_eq_true rfl⟩ ⟨Nat.zero_le _, Nat.zero_le _⟩ hw 0 3 rfl rfl rfl rfl (Nat.le_of_ble_eq_true rfl) dX5_copy_100 (fun H locs hw => ?_)
              have hw : zHw x A s.heap (zHW x b t S l0 T l1 K l2 ik (upd fd 0 (fd 0 + 1)) tb tq bo so nn) H locs := hw
              exact zFG.iret hx hb hr hlocks hQ hw rfl dX5_copy_103 (by rw [show zm_copy bo so nn fd 3 fr 2 to vn = ((-1000000001), nn, zFd fd 0) from (by unfold zm_copy; rw [if_pos ⟨by decide, by decide⟩, show zc (3 : Int32) = 3 from rfl, show zc (2 : Int32) = 2 from rfl, if_neg (fun h => h.elim c36 c44), if_pos c64, if_neg (fun h => by first | exact c94 ((zspan hn2 hs2).mpr ⟨h.2.1, h.2.2.1, h.2.2.2.2⟩) | exact c82 ((zspan hn1 hs1).mpr ⟨h.1, h.2.2.1, h.2.2.2.1⟩))])]; exact ⟨rfl, rfl⟩)
            · have c82 := zb_n0.mp c82
              refine lv_aload hx hb dX5_copy_85 (lv_at hl 0 rfl) ?_
              refine lv_iload hx hb dX5_copy_87 (lv_at hl 6 rfl) ?_
              refine lv_iload hx hb dX5_copy_89 (lv_at hl 7 rfl) ?_
              refine zcVmi (r := zb (0 ≤ to ∧ 0 ≤ vn ∧ vn ≤ so 2 ∧ to ≤ so 2 - vn)) (C1 := (zOW x b t ik fd ++ (zTW x (t 0) S l0 ++ (zTW x (t 1) T l1 ++ (zTW x (t 2) K l2 ++ (zPW x b tb tq ++ (zSH x (b 5) (b 9) (bo 0) (so 0) (nn 0) ++ zSH x (b 6) (b 10) (bo 1) (so 1) (nn 1)))))))) (C2 := (zSH x (b 8) (b 12) (bo 3) (so 3) (nn 3))) hx hb hml hown hts hl.1 hK hE hA lkX5_242 (c_X1_hasSpan x (b 7) (b 11) (bo 2) (so 2) (nn 2) to vn) ⟨Nat.le_of_ble_eq_true rfl, Nat.le_of_ble_eq_true rfl⟩ ⟨Nat.zero_le _, Nat.zero_le _⟩ hw 0 0 rfl rfl rfl rfl (Nat.le_of_ble_eq_true rfl) dX5_copy_91 (fun H locs hw => ?_)
              have hw : zHw x A s.heap (zHW x b t S l0 T l1 K l2 ik fd tb tq bo so nn) H locs := hw
              refine lv_if_ne (tgt := 104) hx hb dX5_copy_94 (by decide) (fun c94 => ?_) (fun c94 => ?_)
              · have c94 := zb_n0.mp c94
                have c82h := (zspan hn1 hs1).mp c82
                have c94h := (zspan hn2 hs2).mp c94
                obtain ⟨i1, k1, rfl, rfl, hb1⟩ := zspan_nat hn1 hs1 c82
                obtain ⟨j1, k2, rfl, ek, hb2⟩ := zspan_nat hn2 hs2 c94
                have ek : k1 = k2 := (nI_eq (by omega) (by omega)).mp ek
                subst ek
                refine lv_aload hx hb dX5_copy_104 (lv_at hl 1 rfl) ?_
                refine gfX5_232 hx hb hown hts hK hw 38 rfl rfl dX5_copy_106 ?_
                refine lv_iload_n hx hb dX5_copy_109 rfl (lv_at hl 4 rfl) ?_
                refine lv_aload hx hb dX5_copy_110 (lv_at hl 0 rfl) ?_
                refine gfX5_232 hx hb hown hts hK hw 36 rfl rfl dX5_copy_112 ?_
                refine lv_iload hx hb dX5_copy_115 (lv_at hl 6 rfl) ?_
                refine lv_iload hx hb dX5_copy_117 (lv_at hl 7 rfl) ?_
                refine zcpyL hx hb (hml.trans hl.1.symm) hown hts acX5 hK hw 39 37 i1 j1 k1 rfl rfl (by omega) (by omega) ⟨Nat.le_of_ble_eq_true rfl, Nat.le_of_ble_eq_true rfl⟩ dX5_copy_119 (fun H locs hw => ?_)
                have hw : zHw x A s.heap (zHW x b t S l0 T l1 K l2 ik fd tb tq bo so (zVL nn 2 (zcp (nn 3) (nn 2) i1 j1 k1))) H locs := hw
                refine lv_iload hx hb dX5_copy_122 (lv_at hl 7 rfl) ?_
                exact zFG.iret hx hb hr hlocks hQ hw rfl dX5_copy_124 (by rw [show zm_copy bo so nn fd 3 (nI i1) 2 (nI j1) (nI k1) = (nI k1, zVL nn 2 (zcp (nn 3) (nn 2) i1 j1 k1), fd) from (by unfold zm_copy; rw [if_pos ⟨by decide, by decide⟩, show zc (3 : Int32) = 3 from rfl, show zc (2 : Int32) = 2 from rfl, if_neg (fun h => h.elim c36 c44), if_pos c64, if_pos ⟨c82h.1, c94h.1, c82h.2.1, c82h.2.2, c94h.2.2⟩, zc_nI (show i1 < 2147483648 by omega), zc_nI (show j1 < 2147483648 by omega), zc_nI (show k1 < 2147483648 by omega)])]; exact ⟨rfl, rfl⟩)
              · have c94 := zb_0.mp c94
                refine lv_aload_n hx hb dX5_copy_97 rfl (lv_at hl 2 rfl) ?_
                refine lv_ldc (v := (-1000000001)) hx hb hown (hts _ ckX5_51) dX5_copy_98 ?_
                refine zcVwi (r := (-1000000001)) hx hb hml hown hts hl.1 hK hE hA lkX5_52 (c_X5_found x b t S l0 T l1 K l2 ik fd tb tq bo so nn (-1000000001) 0 (by decide) (by decide)) ⟨Nat.le_of_ble_eq_true rfl, Nat.le_of_ble_eq_true rfl⟩ ⟨Nat.zero_le _, Nat.zero_le _⟩ hw 0 3 rfl rfl rfl rfl (Nat.le_of_ble_eq_true rfl) dX5_copy_100 (fun H locs hw => ?_)
                have hw : zHw x A s.heap (zHW x b t S l0 T l1 K l2 ik (upd fd 0 (fd 0 + 1)) tb tq bo so nn) H locs := hw
                exact zFG.iret hx hb hr hlocks hQ hw rfl dX5_copy_103 (by rw [show zm_copy bo so nn fd 3 fr 2 to vn = ((-1000000001), nn, zFd fd 0) from (by unfold zm_copy; rw [if_pos ⟨by decide, by decide⟩, show zc (3 : Int32) = 3 from rfl, show zc (2 : Int32) = 2 from rfl, if_neg (fun h => h.elim c36 c44), if_pos c64, if_neg (fun h => by first | exact c94 ((zspan hn2 hs2).mpr ⟨h.2.1, h.2.2.1, h.2.2.2.2⟩) | exact c82 ((zspan hn1 hs1).mpr ⟨h.1, h.2.2.1, h.2.2.2.1⟩))])]; exact ⟨rfl, rfl⟩)
          · refine lv_aload_n hx hb dX5_copy_67 rfl (lv_at hl 2 rfl) ?_
            refine lv_ldc (v := (-1000000003)) hx hb hown (hts _ ckX5_123) dX5_copy_68 ?_
            refine zcVwi (r := (-1000000003)) hx hb hml hown hts hl.1 hK hE hA lkX5_52 (c_X5_found x b t S l0 T l1 K l2 ik fd tb tq bo so nn (-1000000003) 2 (by decide) (by decide)) ⟨Nat.le_of_ble_eq_true rfl, Nat.le_of_ble_eq_true rfl⟩ ⟨Nat.zero_le _, Nat.zero_le _⟩ hw 0 3 rfl rfl rfl rfl (Nat.le_of_ble_eq_true rfl) dX5_copy_70 (fun H locs hw => ?_)
            have hw : zHw x A s.heap (zHW x b t S l0 T l1 K l2 ik (upd fd 2 (fd 2 + 1)) tb tq bo so nn) H locs := hw
            exact zFG.iret hx hb hr hlocks hQ hw rfl dX5_copy_73 (by rw [show zm_copy bo so nn fd 3 fr 2 to vn = ((-1000000003), nn, zFd fd 2) from (by unfold zm_copy; rw [if_pos ⟨by decide, by decide⟩, show zc (3 : Int32) = 3 from rfl, show zc (2 : Int32) = 2 from rfl, if_neg (fun h => h.elim c36 c44), if_neg c64])]; exact ⟨rfl, rfl⟩)
        · have c44 := zb_n0.mp c44
          refine lv_aload_n hx hb dX5_copy_47 rfl (lv_at hl 2 rfl) ?_
          refine lv_ldc (v := (-1000000006)) hx hb hown (hts _ ckX5_231) dX5_copy_48 ?_
          refine zcVwi (r := (-1000000006)) hx hb hml hown hts hl.1 hK hE hA lkX5_52 (c_X5_found x b t S l0 T l1 K l2 ik fd tb tq bo so nn (-1000000006) 5 (by decide) (by decide)) ⟨Nat.le_of_ble_eq_true rfl, Nat.le_of_ble_eq_true rfl⟩ ⟨Nat.zero_le _, Nat.zero_le _⟩ hw 0 3 rfl rfl rfl rfl (Nat.le_of_ble_eq_true rfl) dX5_copy_50 (fun H locs hw => ?_)
          have hw : zHw x A s.heap (zHW x b t S l0 T l1 K l2 ik (upd fd 5 (fd 5 + 1)) tb tq bo so nn) H locs := hw
          exact zFG.iret hx hb hr hlocks hQ hw rfl dX5_copy_53 (by rw [show zm_copy bo so nn fd 3 fr 2 to vn = ((-1000000006), nn, zFd fd 5) from (by unfold zm_copy; rw [if_pos ⟨by decide, by decide⟩, show zc (3 : Int32) = 3 from rfl, show zc (2 : Int32) = 2 from rfl, if_pos (by first | exact Or.inr c44 | exact Or.inl c36)])]; exact ⟨rfl, rfl⟩)
    · refine lv_aload_n hx hb dX5_copy_7 rfl (lv_at hl 1 rfl) ?_
      refine lv_iload_n hx hb dX5_copy_8 rfl (lv_at hl 4 rfl) ?_
      refine zcVwa hx hb hml hown hts hl.1 hK hE hA lkX5_219 (c_X5_sheetAt_3 x b t S l0 T l1 K l2 ik fd tb tq bo so nn) ⟨Nat.le_of_ble_eq_true rfl, Nat.le_of_ble_eq_true rfl⟩ ⟨Nat.zero_le _, Nat.zero_le _⟩ hw 0 3 rfl rfl rfl rfl (Nat.le_of_ble_eq_true rfl) dX5_copy_9 (fun H locs hw => ?_)
      have hw : zHw x A s.heap (zHW x b t S l0 T l1 K l2 ik fd tb tq bo so nn) H locs := hw
      refine lv_astore (lv' := [(7, .ref (b 8)), (6, .ref (b 8)), (0, .ref (b 0)), (1, .int 3), (2, .int fr), (3, .int 3), (4, .int to), (5, .int vn)]) hx hb dX5_copy_12 hl (by decide) rfl (fun ls hl => ?_)
      refine lv_aload hx hb dX5_copy_14 (lv_at hl 1 rfl) ?_
      refine lv_ifnull hx hb dX5_copy_16 ?_
      refine lv_aload hx hb dX5_copy_19 (lv_at hl 0 rfl) ?_
      refine lv_ifnonnull (tgt := 31) hx hb dX5_copy_21 (by decide) ?_
      refine lv_aload hx hb dX5_copy_31 (lv_at hl 1 rfl) ?_
      refine zcVmi (r := zb (bo 3 = 0)) (C1 := (zOW x b t ik fd ++ (zTW x (t 0) S l0 ++ (zTW x (t 1) T l1 ++ (zTW x (t 2) K l2 ++ (zPW x b tb tq ++ (zSH x (b 5) (b 9) (bo 0) (so 0) (nn 0) ++ (zSH x (b 6) (b 10) (bo 1) (so 1) (nn 1) ++ zSH x (b 7) (b 11) (bo 2) (so 2) (nn 2))))))))) (C2 := []) hx hb hml hown hts hl.1 hK hE hA lkX5_228 (c_X1_isMissing x (b 8) (b 12) (bo 3) (so 3) (nn 3) ) ⟨Nat.le_of_ble_eq_true rfl, Nat.le_of_ble_eq_true rfl⟩ ⟨Nat.zero_le _, Nat.zero_le _⟩ hw 0 0 rfl rfl rfl rfl (Nat.le_of_ble_eq_true rfl) dX5_copy_33 (fun H locs hw => ?_)
      have hw : zHw x A s.heap (zHW x b t S l0 T l1 K l2 ik fd tb tq bo so nn) H locs := hw
      refine lv_if_ne (tgt := 47) hx hb dX5_copy_36 (by decide) (fun c36 => ?_) (fun c36 => ?_)
      · have c36 := zb_n0.mp c36
        refine lv_aload_n hx hb dX5_copy_47 rfl (lv_at hl 2 rfl) ?_
        refine lv_ldc (v := (-1000000006)) hx hb hown (hts _ ckX5_231) dX5_copy_48 ?_
        refine zcVwi (r := (-1000000006)) hx hb hml hown hts hl.1 hK hE hA lkX5_52 (c_X5_found x b t S l0 T l1 K l2 ik fd tb tq bo so nn (-1000000006) 5 (by decide) (by decide)) ⟨Nat.le_of_ble_eq_true rfl, Nat.le_of_ble_eq_true rfl⟩ ⟨Nat.zero_le _, Nat.zero_le _⟩ hw 0 3 rfl rfl rfl rfl (Nat.le_of_ble_eq_true rfl) dX5_copy_50 (fun H locs hw => ?_)
        have hw : zHw x A s.heap (zHW x b t S l0 T l1 K l2 ik (upd fd 5 (fd 5 + 1)) tb tq bo so nn) H locs := hw
        exact zFG.iret hx hb hr hlocks hQ hw rfl dX5_copy_53 (by rw [show zm_copy bo so nn fd 3 fr 3 to vn = ((-1000000006), nn, zFd fd 5) from (by unfold zm_copy; rw [if_pos ⟨by decide, by decide⟩, show zc (3 : Int32) = 3 from rfl, if_pos (by first | exact Or.inr c44 | exact Or.inl c36)])]; exact ⟨rfl, rfl⟩)
      · have c36 := zb_0.mp c36
        refine lv_aload hx hb dX5_copy_39 (lv_at hl 0 rfl) ?_
        refine zcVmi (r := zb (bo 3 = 0)) (C1 := (zOW x b t ik fd ++ (zTW x (t 0) S l0 ++ (zTW x (t 1) T l1 ++ (zTW x (t 2) K l2 ++ (zPW x b tb tq ++ (zSH x (b 5) (b 9) (bo 0) (so 0) (nn 0) ++ (zSH x (b 6) (b 10) (bo 1) (so 1) (nn 1) ++ zSH x (b 7) (b 11) (bo 2) (so 2) (nn 2))))))))) (C2 := []) hx hb hml hown hts hl.1 hK hE hA lkX5_228 (c_X1_isMissing x (b 8) (b 12) (bo 3) (so 3) (nn 3) ) ⟨Nat.le_of_ble_eq_true rfl, Nat.le_of_ble_eq_true rfl⟩ ⟨Nat.zero_le _, Nat.zero_le _⟩ hw 0 0 rfl rfl rfl rfl (Nat.le_of_ble_eq_true rfl) dX5_copy_41 (fun H locs hw => ?_)
        have hw : zHw x A s.heap (zHW x b t S l0 T l1 K l2 ik fd tb tq bo so nn) H locs := hw
        refine lv_if_eq (tgt := 54) hx hb dX5_copy_44 (by decide) (fun c44 => ?_) (fun c44 => absurd (zb_0.mpr c36) c44)
        refine lv_aload hx hb dX5_copy_54 (lv_at hl 1 rfl) ?_
        refine gfX5_239 hx hb hown hts hK hw 38 rfl rfl dX5_copy_56 ?_
        refine lv_aload hx hb dX5_copy_59 (lv_at hl 0 rfl) ?_
        refine gfX5_239 hx hb hown hts hK hw 38 rfl rfl dX5_copy_61 ?_
        refine lv_icmp_eq (tgt := 74) hx hb dX5_copy_64 (by decide) (fun c64 => ?_) (fun c64 => ?_)
        · obtain ⟨-, n1, hn1, hs1⟩ := hS 3 (by decide)
          obtain ⟨-, n2, hn2, hs2⟩ := hS 3 (by decide)
          refine lv_aload hx hb dX5_copy_74 (lv_at hl 1 rfl) ?_
          refine lv_iload_n hx hb dX5_copy_76 rfl (lv_at hl 4 rfl) ?_
          refine lv_iload hx hb dX5_copy_77 (lv_at hl 7 rfl) ?_
          refine zcVmi (r := zb (0 ≤ fr ∧ 0 ≤ vn ∧ vn ≤ so 3 ∧ fr ≤ so 3 - vn)) (C1 := (zOW x b t ik fd ++ (zTW x (t 0) S l0 ++ (zTW x (t 1) T l1 ++ (zTW x (t 2) K l2 ++ (zPW x b tb tq ++ (zSH x (b 5) (b 9) (bo 0) (so 0) (nn 0) ++ (zSH x (b 6) (b 10) (bo 1) (so 1) (nn 1) ++ zSH x (b 7) (b 11) (bo 2) (so 2) (nn 2))))))))) (C2 := []) hx hb hml hown hts hl.1 hK hE hA lkX5_242 (c_X1_hasSpan x (b 8) (b 12) (bo 3) (so 3) (nn 3) fr vn) ⟨Nat.le_of_ble_eq_true rfl, Nat.le_of_ble_eq_true rfl⟩ ⟨Nat.zero_le _, Nat.zero_le _⟩ hw 0 0 rfl rfl rfl rfl (Nat.le_of_ble_eq_true rfl) dX5_copy_79 (fun H locs hw => ?_)
          have hw : zHw x A s.heap (zHW x b t S l0 T l1 K l2 ik fd tb tq bo so nn) H locs := hw
          refine lv_if_eq (tgt := 97) hx hb dX5_copy_82 (by decide) (fun c82 => ?_) (fun c82 => ?_)
          · have c82 := zb_0.mp c82
            refine lv_aload_n hx hb dX5_copy_97 rfl (lv_at hl 2 rfl) ?_
            refine lv_ldc (v := (-1000000001)) hx hb hown (hts _ ckX5_51) dX5_copy_98 ?_
            refine zcVwi (r := (-1000000001)) hx hb hml hown hts hl.1 hK hE hA lkX5_52 (c_X5_found x b t S l0 T l1 K l2 ik fd tb tq bo so nn (-1000000001) 0 (by decide) (by decide)) ⟨Nat.le_of_ble_eq_true rfl, Nat.le_of_ble_eq_true rfl⟩ ⟨Nat.zero_le _, Nat.zero_le _⟩ hw 0 3 rfl rfl rfl rfl (Nat.le_of_ble_eq_true rfl) dX5_copy_100 (fun H locs hw => ?_)
            have hw : zHw x A s.heap (zHW x b t S l0 T l1 K l2 ik (upd fd 0 (fd 0 + 1)) tb tq bo so nn) H locs := hw
            exact zFG.iret hx hb hr hlocks hQ hw rfl dX5_copy_103 (by rw [show zm_copy bo so nn fd 3 fr 3 to vn = ((-1000000001), nn, zFd fd 0) from (by unfold zm_copy; rw [if_pos ⟨by decide, by decide⟩, show zc (3 : Int32) = 3 from rfl, if_neg (fun h => h.elim c36 c36), if_pos c64, if_neg (fun h => by first | exact c94 ((zspan hn2 hs2).mpr ⟨h.2.1, h.2.2.1, h.2.2.2.2⟩) | exact c82 ((zspan hn1 hs1).mpr ⟨h.1, h.2.2.1, h.2.2.2.1⟩))])]; exact ⟨rfl, rfl⟩)
          · have c82 := zb_n0.mp c82
            refine lv_aload hx hb dX5_copy_85 (lv_at hl 0 rfl) ?_
            refine lv_iload hx hb dX5_copy_87 (lv_at hl 6 rfl) ?_
            refine lv_iload hx hb dX5_copy_89 (lv_at hl 7 rfl) ?_
            refine zcVmi (r := zb (0 ≤ to ∧ 0 ≤ vn ∧ vn ≤ so 3 ∧ to ≤ so 3 - vn)) (C1 := (zOW x b t ik fd ++ (zTW x (t 0) S l0 ++ (zTW x (t 1) T l1 ++ (zTW x (t 2) K l2 ++ (zPW x b tb tq ++ (zSH x (b 5) (b 9) (bo 0) (so 0) (nn 0) ++ (zSH x (b 6) (b 10) (bo 1) (so 1) (nn 1) ++ zSH x (b 7) (b 11) (bo 2) (so 2) (nn 2))))))))) (C2 := []) hx hb hml hown hts hl.1 hK hE hA lkX5_242 (c_X1_hasSpan x (b 8) (b 12) (bo 3) (so 3) (nn 3) to vn) ⟨Nat.le_of_ble_eq_true rfl, Nat.le_of_ble_eq_true rfl⟩ ⟨Nat.zero_le _, Nat.zero_le _⟩ hw 0 0 rfl rfl rfl rfl (Nat.le_of_ble_eq_true rfl) dX5_copy_91 (fun H locs hw => ?_)
            have hw : zHw x A s.heap (zHW x b t S l0 T l1 K l2 ik fd tb tq bo so nn) H locs := hw
            refine lv_if_ne (tgt := 104) hx hb dX5_copy_94 (by decide) (fun c94 => ?_) (fun c94 => ?_)
            · have c94 := zb_n0.mp c94
              have c82h := (zspan hn1 hs1).mp c82
              have c94h := (zspan hn2 hs2).mp c94
              obtain ⟨i1, k1, rfl, rfl, hb1⟩ := zspan_nat hn1 hs1 c82
              obtain ⟨j1, k2, rfl, ek, hb2⟩ := zspan_nat hn2 hs2 c94
              have ek : k1 = k2 := (nI_eq (by omega) (by omega)).mp ek
              subst ek
              refine lv_aload hx hb dX5_copy_104 (lv_at hl 1 rfl) ?_
              refine gfX5_232 hx hb hown hts hK hw 38 rfl rfl dX5_copy_106 ?_
              refine lv_iload_n hx hb dX5_copy_109 rfl (lv_at hl 4 rfl) ?_
              refine lv_aload hx hb dX5_copy_110 (lv_at hl 0 rfl) ?_
              refine gfX5_232 hx hb hown hts hK hw 38 rfl rfl dX5_copy_112 ?_
              refine lv_iload hx hb dX5_copy_115 (lv_at hl 6 rfl) ?_
              refine lv_iload hx hb dX5_copy_117 (lv_at hl 7 rfl) ?_
              refine zcpyL hx hb (hml.trans hl.1.symm) hown hts acX5 hK hw 39 39 i1 j1 k1 rfl rfl (by omega) (by omega) ⟨Nat.le_of_ble_eq_true rfl, Nat.le_of_ble_eq_true rfl⟩ dX5_copy_119 (fun H locs hw => ?_)
              have hw : zHw x A s.heap (zHW x b t S l0 T l1 K l2 ik fd tb tq bo so (zVL nn 3 (zcp (nn 3) (nn 3) i1 j1 k1))) H locs := hw
              refine lv_iload hx hb dX5_copy_122 (lv_at hl 7 rfl) ?_
              exact zFG.iret hx hb hr hlocks hQ hw rfl dX5_copy_124 (by rw [show zm_copy bo so nn fd 3 (nI i1) 3 (nI j1) (nI k1) = (nI k1, zVL nn 3 (zcp (nn 3) (nn 3) i1 j1 k1), fd) from (by unfold zm_copy; rw [if_pos ⟨by decide, by decide⟩, show zc (3 : Int32) = 3 from rfl, if_neg (fun h => h.elim c36 c36), if_pos c64, if_pos ⟨c82h.1, c94h.1, c82h.2.1, c82h.2.2, c94h.2.2⟩, zc_nI (show i1 < 2147483648 by omega), zc_nI (show j1 < 2147483648 by omega), zc_nI (show k1 < 2147483648 by omega)])]; exact ⟨rfl, rfl⟩)
            · have c94 := zb_0.mp c94
              refine lv_aload_n hx hb dX5_copy_97 rfl (lv_at hl 2 rfl) ?_
              refine lv_ldc (v := (-1000000001)) hx hb hown (hts _ ckX5_51) dX5_copy_98 ?_
              refine zcVwi (r := (-1000000001)) hx hb hml hown hts hl.1 hK hE hA lkX5_52 (c_X5_found x b t S l0 T l1 K l2 ik fd tb tq bo so nn (-1000000001) 0 (by decide) (by decide)) ⟨Nat.le_of_ble_eq_true rfl, Nat.le_of_ble_eq_true rfl⟩ ⟨Nat.zero_le _, Nat.zero_le _⟩ hw 0 3 rfl rfl rfl rfl (Nat.le_of_ble_eq_true rfl) dX5_copy_100 (fun H locs hw => ?_)
              have hw : zHw x A s.heap (zHW x b t S l0 T l1 K l2 ik (upd fd 0 (fd 0 + 1)) tb tq bo so nn) H locs := hw
              exact zFG.iret hx hb hr hlocks hQ hw rfl dX5_copy_103 (by rw [show zm_copy bo so nn fd 3 fr 3 to vn = ((-1000000001), nn, zFd fd 0) from (by unfold zm_copy; rw [if_pos ⟨by decide, by decide⟩, show zc (3 : Int32) = 3 from rfl, if_neg (fun h => h.elim c36 c36), if_pos c64, if_neg (fun h => by first | exact c94 ((zspan hn2 hs2).mpr ⟨h.2.1, h.2.2.1, h.2.2.2.2⟩) | exact c82 ((zspan hn1 hs1).mpr ⟨h.1, h.2.2.1, h.2.2.2.1⟩))])]; exact ⟨rfl, rfl⟩)
        · refine lv_aload_n hx hb dX5_copy_67 rfl (lv_at hl 2 rfl) ?_
          refine lv_ldc (v := (-1000000003)) hx hb hown (hts _ ckX5_123) dX5_copy_68 ?_
          refine zcVwi (r := (-1000000003)) hx hb hml hown hts hl.1 hK hE hA lkX5_52 (c_X5_found x b t S l0 T l1 K l2 ik fd tb tq bo so nn (-1000000003) 2 (by decide) (by decide)) ⟨Nat.le_of_ble_eq_true rfl, Nat.le_of_ble_eq_true rfl⟩ ⟨Nat.zero_le _, Nat.zero_le _⟩ hw 0 3 rfl rfl rfl rfl (Nat.le_of_ble_eq_true rfl) dX5_copy_70 (fun H locs hw => ?_)
          have hw : zHw x A s.heap (zHW x b t S l0 T l1 K l2 ik (upd fd 2 (fd 2 + 1)) tb tq bo so nn) H locs := hw
          exact zFG.iret hx hb hr hlocks hQ hw rfl dX5_copy_73 (by rw [show zm_copy bo so nn fd 3 fr 3 to vn = ((-1000000003), nn, zFd fd 2) from (by unfold zm_copy; rw [if_pos ⟨by decide, by decide⟩, show zc (3 : Int32) = 3 from rfl, if_neg (fun h => h.elim c36 c36), if_neg c64])]; exact ⟨rfl, rfl⟩)
    · refine lv_aload_n hx hb dX5_copy_7 rfl (lv_at hl 1 rfl) ?_
      refine lv_iload_n hx hb dX5_copy_8 rfl (lv_at hl 4 rfl) ?_
      refine zcVwa hx hb hml hown hts hl.1 hK hE hA lkX5_219 (c_X5_sheetAt_no x b t S l0 T l1 K l2 ik fd tb tq bo so nn z hnz) ⟨Nat.le_of_ble_eq_true rfl, Nat.le_of_ble_eq_true rfl⟩ ⟨Nat.zero_le _, Nat.zero_le _⟩ hw 0 3 rfl rfl rfl rfl (Nat.le_of_ble_eq_true rfl) dX5_copy_9 (fun H locs hw => ?_)
      have hw : zHw x A s.heap (zHW x b t S l0 T l1 K l2 ik fd tb tq bo so nn) H locs := hw
      refine lv_astoreN (lv' := [(7, Value.null), (6, .ref (b 8)), (0, .ref (b 0)), (1, .int 3), (2, .int fr), (3, .int z), (4, .int to), (5, .int vn)]) hx hb dX5_copy_12 hl (by decide) rfl (fun ls hl => ?_)
      refine lv_aload hx hb dX5_copy_14 (lv_at hl 1 rfl) ?_
      refine lv_ifnull hx hb dX5_copy_16 ?_
      refine lv_aloadN hx hb dX5_copy_19 (lv_at hl 0 rfl) ?_
      refine lv_ifnonnullN hx hb dX5_copy_21 ?_
      refine lv_aload_n hx hb dX5_copy_24 rfl (lv_at hl 2 rfl) ?_
      refine lv_ldc (v := (-1000000001)) hx hb hown (hts _ ckX5_51) dX5_copy_25 ?_
      refine zcVwi (r := (-1000000001)) hx hb hml hown hts hl.1 hK hE hA lkX5_52 (c_X5_found x b t S l0 T l1 K l2 ik fd tb tq bo so nn (-1000000001) 0 (by decide) (by decide)) ⟨Nat.le_of_ble_eq_true rfl, Nat.le_of_ble_eq_true rfl⟩ ⟨Nat.zero_le _, Nat.zero_le _⟩ hw 0 3 rfl rfl rfl rfl (Nat.le_of_ble_eq_true rfl) dX5_copy_27 (fun H locs hw => ?_)
      have hw : zHw x A s.heap (zHW x b t S l0 T l1 K l2 ik (upd fd 0 (fd 0 + 1)) tb tq bo so nn) H locs := hw
      exact zFG.iret hx hb hr hlocks hQ hw rfl dX5_copy_30 (by rw [show zm_copy bo so nn fd 3 fr z to vn = ((-1000000001), nn, zFd fd 0) from (by unfold zm_copy; first | rw [if_neg (fun h => hnz h.2)] | rw [if_neg (fun h => hno h.1)])]; exact ⟨rfl, rfl⟩)
  · refine lv_aload_n hx hb dX5_copy_0 rfl (lv_at hl 0 rfl) ?_
    refine lv_iload_n hx hb dX5_copy_1 rfl (lv_at hl 1 rfl) ?_
    refine zcVwa hx hb hml hown hts hl.1 hK hE hA lkX5_219 (c_X5_sheetAt_no x b t S l0 T l1 K l2 ik fd tb tq bo so nn y hno) ⟨Nat.le_of_ble_eq_true rfl, Nat.le_of_ble_eq_true rfl⟩ ⟨Nat.zero_le _, Nat.zero_le _⟩ hw 0 3 rfl rfl rfl rfl (Nat.le_of_ble_eq_true rfl) dX5_copy_2 (fun H locs hw => ?_)
    have hw : zHw x A s.heap (zHW x b t S l0 T l1 K l2 ik fd tb tq bo so nn) H locs := hw
    refine lv_astoreN (lv' := [(6, Value.null), (0, .ref (b 0)), (1, .int y), (2, .int fr), (3, .int z), (4, .int to), (5, .int vn)]) hx hb dX5_copy_5 hl (by decide) rfl (fun ls hl => ?_)
    rcases zcase4 z with rfl | rfl | rfl | rfl | hnz
    · refine lv_aload_n hx hb dX5_copy_7 rfl (lv_at hl 1 rfl) ?_
      refine lv_iload_n hx hb dX5_copy_8 rfl (lv_at hl 4 rfl) ?_
      refine zcVwa hx hb hml hown hts hl.1 hK hE hA lkX5_219 (c_X5_sheetAt_0 x b t S l0 T l1 K l2 ik fd tb tq bo so nn) ⟨Nat.le_of_ble_eq_true rfl, Nat.le_of_ble_eq_true rfl⟩ ⟨Nat.zero_le _, Nat.zero_le _⟩ hw 0 3 rfl rfl rfl rfl (Nat.le_of_ble_eq_true rfl) dX5_copy_9 (fun H locs hw => ?_)
      have hw : zHw x A s.heap (zHW x b t S l0 T l1 K l2 ik fd tb tq bo so nn) H locs := hw
      refine lv_astore (lv' := [(7, .ref (b 5)), (6, Value.null), (0, .ref (b 0)), (1, .int y), (2, .int fr), (3, .int 0), (4, .int to), (5, .int vn)]) hx hb dX5_copy_12 hl (by decide) rfl (fun ls hl => ?_)
      refine lv_aloadN hx hb dX5_copy_14 (lv_at hl 1 rfl) ?_
      refine lv_ifnullN (tgt := 24) hx hb dX5_copy_16 (by decide) ?_
      refine lv_aload_n hx hb dX5_copy_24 rfl (lv_at hl 2 rfl) ?_
      refine lv_ldc (v := (-1000000001)) hx hb hown (hts _ ckX5_51) dX5_copy_25 ?_
      refine zcVwi (r := (-1000000001)) hx hb hml hown hts hl.1 hK hE hA lkX5_52 (c_X5_found x b t S l0 T l1 K l2 ik fd tb tq bo so nn (-1000000001) 0 (by decide) (by decide)) ⟨Nat.le_of_ble_eq_true rfl, Nat.le_of_ble_eq_true rfl⟩ ⟨Nat.zero_le _, Nat.zero_le _⟩ hw 0 3 rfl rfl rfl rfl (Nat.le_of_ble_eq_true rfl) dX5_copy_27 (fun H locs hw => ?_)
      have hw : zHw x A s.heap (zHW x b t S l0 T l1 K l2 ik (upd fd 0 (fd 0 + 1)) tb tq bo so nn) H locs := hw
      exact zFG.iret hx hb hr hlocks hQ hw rfl dX5_copy_30 (by rw [show zm_copy bo so nn fd y fr 0 to vn = ((-1000000001), nn, zFd fd 0) from (by unfold zm_copy; first | rw [if_neg (fun h => hnz h.2)] | rw [if_neg (fun h => hno h.1)])]; exact ⟨rfl, rfl⟩)
    · refine lv_aload_n hx hb dX5_copy_7 rfl (lv_at hl 1 rfl) ?_
      refine lv_iload_n hx hb dX5_copy_8 rfl (lv_at hl 4 rfl) ?_
      refine zcVwa hx hb hml hown hts hl.1 hK hE hA lkX5_219 (c_X5_sheetAt_1 x b t S l0 T l1 K l2 ik fd tb tq bo so nn) ⟨Nat.le_of_ble_eq_true rfl, Nat.le_of_ble_eq_true rfl⟩ ⟨Nat.zero_le _, Nat.zero_le _⟩ hw 0 3 rfl rfl rfl rfl (Nat.le_of_ble_eq_true rfl) dX5_copy_9 (fun H locs hw => ?_)
      have hw : zHw x A s.heap (zHW x b t S l0 T l1 K l2 ik fd tb tq bo so nn) H locs := hw
      refine lv_astore (lv' := [(7, .ref (b 6)), (6, Value.null), (0, .ref (b 0)), (1, .int y), (2, .int fr), (3, .int 1), (4, .int to), (5, .int vn)]) hx hb dX5_copy_12 hl (by decide) rfl (fun ls hl => ?_)
      refine lv_aloadN hx hb dX5_copy_14 (lv_at hl 1 rfl) ?_
      refine lv_ifnullN (tgt := 24) hx hb dX5_copy_16 (by decide) ?_
      refine lv_aload_n hx hb dX5_copy_24 rfl (lv_at hl 2 rfl) ?_
      refine lv_ldc (v := (-1000000001)) hx hb hown (hts _ ckX5_51) dX5_copy_25 ?_
      refine zcVwi (r := (-1000000001)) hx hb hml hown hts hl.1 hK hE hA lkX5_52 (c_X5_found x b t S l0 T l1 K l2 ik fd tb tq bo so nn (-1000000001) 0 (by decide) (by decide)) ⟨Nat.le_of_ble_eq_true rfl, Nat.le_of_ble_eq_true rfl⟩ ⟨Nat.zero_le _, Nat.zero_le _⟩ hw 0 3 rfl rfl rfl rfl (Nat.le_of_ble_eq_true rfl) dX5_copy_27 (fun H locs hw => ?_)
      have hw : zHw x A s.heap (zHW x b t S l0 T l1 K l2 ik (upd fd 0 (fd 0 + 1)) tb tq bo so nn) H locs := hw
      exact zFG.iret hx hb hr hlocks hQ hw rfl dX5_copy_30 (by rw [show zm_copy bo so nn fd y fr 1 to vn = ((-1000000001), nn, zFd fd 0) from (by unfold zm_copy; first | rw [if_neg (fun h => hnz h.2)] | rw [if_neg (fun h => hno h.1)])]; exact ⟨rfl, rfl⟩)
    · refine lv_aload_n hx hb dX5_copy_7 rfl (lv_at hl 1 rfl) ?_
      refine lv_iload_n hx hb dX5_copy_8 rfl (lv_at hl 4 rfl) ?_
      refine zcVwa hx hb hml hown hts hl.1 hK hE hA lkX5_219 (c_X5_sheetAt_2 x b t S l0 T l1 K l2 ik fd tb tq bo so nn) ⟨Nat.le_of_ble_eq_true rfl, Nat.le_of_ble_eq_true rfl⟩ ⟨Nat.zero_le _, Nat.zero_le _⟩ hw 0 3 rfl rfl rfl rfl (Nat.le_of_ble_eq_true rfl) dX5_copy_9 (fun H locs hw => ?_)
      have hw : zHw x A s.heap (zHW x b t S l0 T l1 K l2 ik fd tb tq bo so nn) H locs := hw
      refine lv_astore (lv' := [(7, .ref (b 7)), (6, Value.null), (0, .ref (b 0)), (1, .int y), (2, .int fr), (3, .int 2), (4, .int to), (5, .int vn)]) hx hb dX5_copy_12 hl (by decide) rfl (fun ls hl => ?_)
      refine lv_aloadN hx hb dX5_copy_14 (lv_at hl 1 rfl) ?_
      refine lv_ifnullN (tgt := 24) hx hb dX5_copy_16 (by decide) ?_
      refine lv_aload_n hx hb dX5_copy_24 rfl (lv_at hl 2 rfl) ?_
      refine lv_ldc (v := (-1000000001)) hx hb hown (hts _ ckX5_51) dX5_copy_25 ?_
      refine zcVwi (r := (-1000000001)) hx hb hml hown hts hl.1 hK hE hA lkX5_52 (c_X5_found x b t S l0 T l1 K l2 ik fd tb tq bo so nn (-1000000001) 0 (by decide) (by decide)) ⟨Nat.le_of_ble_eq_true rfl, Nat.le_of_ble_eq_true rfl⟩ ⟨Nat.zero_le _, Nat.zero_le _⟩ hw 0 3 rfl rfl rfl rfl (Nat.le_of_ble_eq_true rfl) dX5_copy_27 (fun H locs hw => ?_)
      have hw : zHw x A s.heap (zHW x b t S l0 T l1 K l2 ik (upd fd 0 (fd 0 + 1)) tb tq bo so nn) H locs := hw
      exact zFG.iret hx hb hr hlocks hQ hw rfl dX5_copy_30 (by rw [show zm_copy bo so nn fd y fr 2 to vn = ((-1000000001), nn, zFd fd 0) from (by unfold zm_copy; first | rw [if_neg (fun h => hnz h.2)] | rw [if_neg (fun h => hno h.1)])]; exact ⟨rfl, rfl⟩)
    · refine lv_aload_n hx hb dX5_copy_7 rfl (lv_at hl 1 rfl) ?_
      refine lv_iload_n hx hb dX5_copy_8 rfl (lv_at hl 4 rfl) ?_
      refine zcVwa hx hb hml hown hts hl.1 hK hE hA lkX5_219 (c_X5_sheetAt_3 x b t S l0 T l1 K l2 ik fd tb tq bo so nn) ⟨Nat.le_of_ble_eq_true rfl, Nat.le_of_ble_eq_true rfl⟩ ⟨Nat.zero_le _, Nat.zero_le _⟩ hw 0 3 rfl rfl rfl rfl (Nat.le_of_ble_eq_true rfl) dX5_copy_9 (fun H locs hw => ?_)
      have hw : zHw x A s.heap (zHW x b t S l0 T l1 K l2 ik fd tb tq bo so nn) H locs := hw
      refine lv_astore (lv' := [(7, .ref (b 8)), (6, Value.null), (0, .ref (b 0)), (1, .int y), (2, .int fr), (3, .int 3), (4, .int to), (5, .int vn)]) hx hb dX5_copy_12 hl (by decide) rfl (fun ls hl => ?_)
      refine lv_aloadN hx hb dX5_copy_14 (lv_at hl 1 rfl) ?_
      refine lv_ifnullN (tgt := 24) hx hb dX5_copy_16 (by decide) ?_
      refine lv_aload_n hx hb dX5_copy_24 rfl (lv_at hl 2 rfl) ?_
      refine lv_ldc (v := (-1000000001)) hx hb hown (hts _ ckX5_51) dX5_copy_25 ?_
      refine zcVwi (r := (-1000000001)) hx hb hml hown hts hl.1 hK hE hA lkX5_52 (c_X5_found x b t S l0 T l1 K l2 ik fd tb tq bo so nn (-1000000001) 0 (by decide) (by decide)) ⟨Nat.le_of_ble_eq_true rfl, Nat.le_of_ble_eq_true rfl⟩ ⟨Nat.zero_le _, Nat.zero_le _⟩ hw 0 3 rfl rfl rfl rfl (Nat.le_of_ble_eq_true rfl) dX5_copy_27 (fun H locs hw => ?_)
      have hw : zHw x A s.heap (zHW x b t S l0 T l1 K l2 ik (upd fd 0 (fd 0 + 1)) tb tq bo so nn) H locs := hw
      exact zFG.iret hx hb hr hlocks hQ hw rfl dX5_copy_30 (by rw [show zm_copy bo so nn fd y fr 3 to vn = ((-1000000001), nn, zFd fd 0) from (by unfold zm_copy; first | rw [if_neg (fun h => hnz h.2)] | rw [if_neg (fun h => hno h.1)])]; exact ⟨rfl, rfl⟩)
    · refine lv_aload_n hx hb dX5_copy_7 rfl (lv_at hl 1 rfl) ?_
      refine lv_iload_n hx hb dX5_copy_8 rfl (lv_at hl 4 rfl) ?_
      refine zcVwa hx hb hml hown hts hl.1 hK hE hA lkX5_219 (c_X5_sheetAt_no x b t S l0 T l1 K l2 ik fd tb tq bo so nn z hnz) ⟨Nat.le_of_ble_eq_true rfl, Nat.le_of_ble_eq_true rfl⟩ ⟨Nat.zero_le _, Nat.zero_le _⟩ hw 0 3 rfl rfl rfl rfl (Nat.le_of_ble_eq_true rfl) dX5_copy_9 (fun H locs hw => ?_)
      have hw : zHw x A s.heap (zHW x b t S l0 T l1 K l2 ik fd tb tq bo so nn) H locs := hw
      refine lv_astoreN (lv' := [(7, Value.null), (6, Value.null), (0, .ref (b 0)), (1, .int y), (2, .int fr), (3, .int z), (4, .int to), (5, .int vn)]) hx hb dX5_copy_12 hl (by decide) rfl (fun ls hl => ?_)
      refine lv_aloadN hx hb dX5_copy_14 (lv_at hl 1 rfl) ?_
      refine lv_ifnullN (tgt := 24) hx hb dX5_copy_16 (by decide) ?_
      refine lv_aload_n hx hb dX5_copy_24 rfl (lv_at hl 2 rfl) ?_
      refine lv_ldc (v := (-1000000001)) hx hb hown (hts _ ckX5_51) dX5_copy_25 ?_
      refine zcVwi (r := (-1000000001)) hx hb hml hown hts hl.1 hK hE hA lkX5_52 (c_X5_found x b t S l0 T l1 K l2 ik fd tb tq bo so nn (-1000000001) 0 (by decide) (by decide)) ⟨Nat.le_of_ble_eq_true rfl, Nat.le_of_ble_eq_true rfl⟩ ⟨Nat.zero_le _, Nat.zero_le _⟩ hw 0 3 rfl rfl rfl rfl (Nat.le_of_ble_eq_true rfl) dX5_copy_27 (fun H locs hw => ?_)
      have hw : zHw x A s.heap (zHW x b t S l0 T l1 K l2 ik (upd fd 0 (fd 0 + 1)) tb tq bo so nn) H locs := hw
      exact zFG.iret hx hb hr hlocks hQ hw rfl dX5_copy_30 (by rw [show zm_copy bo so nn fd y fr z to vn = ((-1000000001), nn, zFd fd 0) from (by unfold zm_copy; first | rw [if_neg (fun h => hnz h.2)] | rw [if_neg (fun h => hno h.1)])]; exact ⟨rfl, rfl⟩)
