set_option maxHeartbeats 4000000 in
set_option maxRecDepth 100000 in
theorem c_X5_how (x : zX) (b : Nat → Nat) (t : Nat → Nat → Nat) (S : zT) (l0 : Int32) (T : zT) (l1 : Int32) (K : zT) (l2 ik : Int32) (fd tb tq bo so : Nat → Int32) (nn : Nat → Nat → Int64) (n : Int32) (hI : zInv S) : zFG x mX5_how 6 [.ref (b 0), .int n] (zHW x b t S l0 T l1 K l2 ik fd tb tq bo so nn) (zPH x b t K l2 ik tb tq bo so nn (zm_how S fd n)) := by
  refine zFG.start RX5 cX5_how 4 (some .int) rfl rfl (by decide +kernel) (Nat.le_of_ble_eq_true rfl) ?_
  intro p e s m ar below meth c ls A Q hx hb hr hml hown hts hlocks hK hE hA hQ hl hw
  have hl : lv_has ls 4 [(0, .ref (b 0)), (1, .int n)] := hl
  have hw : zHw x A s.heap (zHW x b t S l0 T l1 K l2 ik fd tb tq bo so nn) s.heap [] := hw
  refine lv_iload_n hx hb dX5_how_0 rfl (lv_at hl 1 rfl) ?_
  refine lv_iconst (v := 1) hx hb dX5_how_1 (by decide) ?_
  refine lv_bipush (v := 104) hx hb dX5_how_2 (by decide) ?_
  refine zcSwi (r := zb (1 ≤ n ∧ n ≤ 104)) hx hb hml hown hts hl.1 hK hE hA lkX5_44 (c_X5_within x (zHW x b t S l0 T l1 K l2 ik fd tb tq bo so nn) n 1 104) ⟨Nat.le_of_ble_eq_true rfl, Nat.le_of_ble_eq_true rfl⟩ ⟨Nat.zero_le _, Nat.zero_le _⟩ hw rfl rfl (Nat.le_of_ble_eq_true rfl) dX5_how_4 (fun H locs hw => ?_)
  have hw : zHw x A s.heap (zHW x b t S l0 T l1 K l2 ik fd tb tq bo so nn) H locs := hw
  refine lv_if_ne (tgt := 17) hx hb dX5_how_7 (by decide) (fun c7 => ?_) (fun c7 => ?_)
  · have c7 := zb_n0.mp c7
    obtain ⟨j, hj, rfl⟩ := zBw_nat (hi := 104) c7 (by decide) (by decide)
    refine lv_aload_n hx hb dX5_how_17 rfl (lv_at hl 0 rfl) ?_
    refine zcVwa hx hb hml hown hts hl.1 hK hE hA lkX5_171 (c_X5_asItIs x b t S l0 T l1 K l2 ik fd tb tq bo so nn) ⟨Nat.le_of_ble_eq_true rfl, Nat.le_of_ble_eq_true rfl⟩ ⟨Nat.zero_le _, Nat.zero_le _⟩ hw 0 3 rfl rfl rfl rfl (Nat.le_of_ble_eq_true rfl) dX5_how_18 (fun H locs hw => ?_)
    have hw : zHw x A s.heap (zHW x b t S l0 S 1000 K l2 ik fd tb tq bo so nn) H locs := hw
    refine lv_astore_n (lv' := [(2, .ref ((t 1) 0)), (0, .ref (b 0)), (1, .int (nI j))]) hx hb dX5_how_21 rfl hl (by decide) rfl (fun ls hl => ?_)
    refine lv_aload_n hx hb dX5_how_22 rfl (lv_at hl 0 rfl) ?_
    refine lv_iconst (v := 0) hx hb dX5_how_23 (by decide) ?_
    refine pfX5_156 hx hb hown hts hK hw 12 rfl (Nat.le_of_ble_eq_true rfl) dX5_how_24 (fun H locs hw => ?_)
    have hw : zHw x A s.heap (zHW x b t S l0 (zU S 0 5 0) 1000 K l2 ik fd tb tq bo so nn) H locs := hw
    refine lv_aload_n hx hb dX5_how_27 rfl (lv_at hl 0 rfl) ?_
    refine lv_iload_n hx hb dX5_how_28 rfl (lv_at hl 2 rfl) ?_
    refine zcVma (C1 := (zOW x b t ik fd ++ zTW x (t 0) S l0)) (C2 := (zTW x (t 2) K l2 ++ (zPW x b tb tq ++ (zSH x (b 5) (b 9) (bo 0) (so 0) (nn 0) ++ (zSH x (b 6) (b 10) (bo 1) (so 1) (nn 1) ++ (zSH x (b 7) (b 11) (bo 2) (so 2) (nn 2) ++ zSH x (b 8) (b 12) (bo 3) (so 3) (nn 3))))))) hx hb hml hown hts hl.1 hK hE hA lkX5_146 (c_X3_goWeeks x (t 1) (zU S 0 5 0) 1000 j (hI.u (Or.inr ⟨0, by decide, rfl⟩)) (by omega)) ⟨Nat.le_of_ble_eq_true rfl, Nat.le_of_ble_eq_true rfl⟩ ⟨Nat.zero_le _, Nat.zero_le _⟩ hw 0 2 rfl rfl rfl rfl (Nat.le_of_ble_eq_true rfl) dX5_how_29 (fun H locs hw => ?_)
    have hw : zHw x A s.heap (zHW x b t S l0 (zGo j (zU S 0 5 0)) (zGl j (zU S 0 5 0) 1000) K l2 ik fd tb tq bo so nn) H locs := hw
    refine zcVmi (r := zSu (zopn (zGo j (zU S 0 5 0))) ((zGo j (zU S 0 5 0)) 5) (zN (zGo j (zU S 0 5 0)))) (C1 := (zOW x b t ik fd ++ zTW x (t 0) S l0)) (C2 := (zTW x (t 2) K l2 ++ (zPW x b tb tq ++ (zSH x (b 5) (b 9) (bo 0) (so 0) (nn 0) ++ (zSH x (b 6) (b 10) (bo 1) (so 1) (nn 1) ++ (zSH x (b 7) (b 11) (bo 2) (so 2) (nn 2) ++ zSH x (b 8) (b 12) (bo 3) (so 3) (nn 3))))))) hx hb hml hown hts hl.1 hK hE hA lkX5_168 (c_X3_openSize x (t 1) (zGo j (zU S 0 5 0)) (zGl j (zU S 0 5 0) 1000) ((zGo_ok j (hI.u (Or.inr ⟨0, by decide, rfl⟩))).1)) ⟨Nat.le_of_ble_eq_true rfl, Nat.le_of_ble_eq_true rfl⟩ ⟨Nat.zero_le _, Nat.zero_le _⟩ hw 0 2 rfl rfl rfl rfl (Nat.le_of_ble_eq_true rfl) dX5_how_32 (fun H locs hw => ?_)
    have hw : zHw x A s.heap (zHW x b t S l0 (zGo j (zU S 0 5 0)) (zGl j (zU S 0 5 0) 1000) K l2 ik fd tb tq bo so nn) H locs := hw
    refine lv_istore_n (lv' := [(3, .int (zSu (zopn (zGo j (zU S 0 5 0))) ((zGo j (zU S 0 5 0)) 5) (zN (zGo j (zU S 0 5 0))))), (2, .ref ((t 1) 0)), (0, .ref (b 0)), (1, .int (nI j))]) hx hb dX5_how_35 rfl hl (by decide) rfl (fun ls hl => ?_)
    refine lv_aload_n hx hb dX5_how_36 rfl (lv_at hl 2 rfl) ?_
    refine zcVwa hx hb hml hown hts hl.1 hK hE hA lkX5_171 (c_X5_asItIs x b t S l0 (zGo j (zU S 0 5 0)) (zGl j (zU S 0 5 0) 1000) K l2 ik fd tb tq bo so nn) ⟨Nat.le_of_ble_eq_true rfl, Nat.le_of_ble_eq_true rfl⟩ ⟨Nat.zero_le _, Nat.zero_le _⟩ hw 0 3 rfl rfl rfl rfl (Nat.le_of_ble_eq_true rfl) dX5_how_37 (fun H locs hw => ?_)
    have hw : zHw x A s.heap (zHW x b t S l0 S 1000 K l2 ik fd tb tq bo so nn) H locs := hw
    refine lv_astore_n (lv' := [(2, .ref ((t 1) 0)), (3, .int (zSu (zopn (zGo j (zU S 0 5 0))) ((zGo j (zU S 0 5 0)) 5) (zN (zGo j (zU S 0 5 0))))), (0, .ref (b 0)), (1, .int (nI j))]) hx hb dX5_how_40 rfl hl (by decide) rfl (fun ls hl => ?_)
    refine lv_aload_n hx hb dX5_how_41 rfl (lv_at hl 0 rfl) ?_
    refine lv_iconst (v := 1) hx hb dX5_how_42 (by decide) ?_
    refine pfX5_156 hx hb hown hts hK hw 12 rfl (Nat.le_of_ble_eq_true rfl) dX5_how_43 (fun H locs hw => ?_)
    have hw : zHw x A s.heap (zHW x b t S l0 (zU S 0 5 1) 1000 K l2 ik fd tb tq bo so nn) H locs := hw
    refine lv_aload_n hx hb dX5_how_46 rfl (lv_at hl 0 rfl) ?_
    refine lv_iload_n hx hb dX5_how_47 rfl (lv_at hl 3 rfl) ?_
    refine zcVma (C1 := (zOW x b t ik fd ++ zTW x (t 0) S l0)) (C2 := (zTW x (t 2) K l2 ++ (zPW x b tb tq ++ (zSH x (b 5) (b 9) (bo 0) (so 0) (nn 0) ++ (zSH x (b 6) (b 10) (bo 1) (so 1) (nn 1) ++ (zSH x (b 7) (b 11) (bo 2) (so 2) (nn 2) ++ zSH x (b 8) (b 12) (bo 3) (so 3) (nn 3))))))) hx hb hml hown hts hl.1 hK hE hA lkX5_146 (c_X3_goWeeks x (t 1) (zU S 0 5 1) 1000 j (hI.u (Or.inr ⟨1, by decide, rfl⟩)) (by omega)) ⟨Nat.le_of_ble_eq_true rfl, Nat.le_of_ble_eq_true rfl⟩ ⟨Nat.zero_le _, Nat.zero_le _⟩ hw 0 2 rfl rfl rfl rfl (Nat.le_of_ble_eq_true rfl) dX5_how_48 (fun H locs hw => ?_)
    have hw : zHw x A s.heap (zHW x b t S l0 (zGo j (zU S 0 5 1)) (zGl j (zU S 0 5 1) 1000) K l2 ik fd tb tq bo so nn) H locs := hw
    refine zcVmi (r := zSu (zopn (zGo j (zU S 0 5 1))) ((zGo j (zU S 0 5 1)) 5) (zN (zGo j (zU S 0 5 1)))) (C1 := (zOW x b t ik fd ++ zTW x (t 0) S l0)) (C2 := (zTW x (t 2) K l2 ++ (zPW x b tb tq ++ (zSH x (b 5) (b 9) (bo 0) (so 0) (nn 0) ++ (zSH x (b 6) (b 10) (bo 1) (so 1) (nn 1) ++ (zSH x (b 7) (b 11) (bo 2) (so 2) (nn 2) ++ zSH x (b 8) (b 12) (bo 3) (so 3) (nn 3))))))) hx hb hml hown hts hl.1 hK hE hA lkX5_168 (c_X3_openSize x (t 1) (zGo j (zU S 0 5 1)) (zGl j (zU S 0 5 1) 1000) ((zGo_ok j (hI.u (Or.inr ⟨1, by decide, rfl⟩))).1)) ⟨Nat.le_of_ble_eq_true rfl, Nat.le_of_ble_eq_true rfl⟩ ⟨Nat.zero_le _, Nat.zero_le _⟩ hw 0 2 rfl rfl rfl rfl (Nat.le_of_ble_eq_true rfl) dX5_how_51 (fun H locs hw => ?_)
    have hw : zHw x A s.heap (zHW x b t S l0 (zGo j (zU S 0 5 1)) (zGl j (zU S 0 5 1) 1000) K l2 ik fd tb tq bo so nn) H locs := hw
    refine lv_iload_n hx hb dX5_how_54 rfl (lv_at hl 1 rfl) ?_
    refine lv_icmp_ge (tgt := 62) hx hb dX5_how_55 (by decide) (fun c55 => ?_) (fun c55 => ?_)
    · refine lv_iconst (v := 0) hx hb dX5_how_62 (by decide) ?_
      exact zFG.iret hx hb hr hlocks hQ hw rfl dX5_how_63 (zPH.mk (r := zm_how S fd (nI j)) (v := 0) (S' := S) (fd' := fd) (by unfold zm_how; rw [if_pos c7, zc_nI (show j < 2147483648 by omega)]; first | exact congrArg (fun z => (z, S, fd)) (if_pos (Int32.not_le.mp c55)) | exact congrArg (fun z => (z, S, fd)) (if_neg (Int32.not_lt.mpr c55))))
    · refine lv_iconst (v := 1) hx hb dX5_how_58 (by decide) ?_
      refine lv_goto (tgt := 63) hx hb dX5_how_59 (by decide) ?_
      exact zFG.iret hx hb hr hlocks hQ hw rfl dX5_how_63 (zPH.mk (r := zm_how S fd (nI j)) (v := 1) (S' := S) (fd' := fd) (by unfold zm_how; rw [if_pos c7, zc_nI (show j < 2147483648 by omega)]; first | exact congrArg (fun z => (z, S, fd)) (if_pos (Int32.not_le.mp c55)) | exact congrArg (fun z => (z, S, fd)) (if_neg (Int32.not_lt.mpr c55))))
  · have c7 := zb_0.mp c7
    refine lv_aload_n hx hb dX5_how_10 rfl (lv_at hl 0 rfl) ?_
    refine lv_ldc (v := (-1000000001)) hx hb hown (hts _ ckX5_51) dX5_how_11 ?_
    refine zcVwi (r := (-1000000001)) hx hb hml hown hts hl.1 hK hE hA lkX5_52 (c_X5_found x b t S l0 T l1 K l2 ik fd tb tq bo so nn (-1000000001) 0 (by decide) (by decide)) ⟨Nat.le_of_ble_eq_true rfl, Nat.le_of_ble_eq_true rfl⟩ ⟨Nat.zero_le _, Nat.zero_le _⟩ hw 0 3 rfl rfl rfl rfl (Nat.le_of_ble_eq_true rfl) dX5_how_13 (fun H locs hw => ?_)
    have hw : zHw x A s.heap (zHW x b t S l0 T l1 K l2 ik (upd fd 0 (fd 0 + 1)) tb tq bo so nn) H locs := hw
    exact zFG.iret hx hb hr hlocks hQ hw rfl dX5_how_16 (zPH.mk (r := zm_how S fd n) (v := (-1000000001)) (S' := S) (fd' := zFd fd 0) (by unfold zm_how; rw [if_neg c7]; rfl))

set_option maxHeartbeats 4000000 in
set_option maxRecDepth 100000 in
theorem c_X5_ring (x : zX) (b : Nat → Nat) (t : Nat → Nat → Nat) (S : zT) (l0 : Int32) (T : zT) (l1 : Int32) (K : zT) (l2 ik : Int32) (fd tb tq bo so : Nat → Int32) (nn : Nat → Nat → Int64) (n : Int32) (hI : zInv S) : zFG x mX5_ring 6 [.ref (b 0), .int n] (zHW x b t S l0 T l1 K l2 ik fd tb tq bo so nn) (zPH x b t K l2 ik tb tq bo so nn (zm_ring S fd n)) := by
  have hz0 := zN_0 hI
  have h8 := zN_le hI
  refine zFG.start RX5 cX5_ring 7 (some .int) rfl rfl (by decide +kernel) (Nat.le_of_ble_eq_true rfl) ?_
  intro p e s m ar below meth c ls A Q hx hb hr hml hown hts hlocks hK hE hA hQ hl hw
  have hl : lv_has ls 7 [(0, .ref (b 0)), (1, .int n)] := hl
  have hw : zHw x A s.heap (zHW x b t S l0 T l1 K l2 ik fd tb tq bo so nn) s.heap [] := hw
  refine lv_iload_n hx hb dX5_ring_0 rfl (lv_at hl 1 rfl) ?_
  refine lv_iconst (v := 1) hx hb dX5_ring_1 (by decide) ?_
  refine lv_bipush (v := 52) hx hb dX5_ring_2 (by decide) ?_
  refine zcSwi (r := zb (1 ≤ n ∧ n ≤ 52)) hx hb hml hown hts hl.1 hK hE hA lkX5_44 (c_X5_within x (zHW x b t S l0 T l1 K l2 ik fd tb tq bo so nn) n 1 52) ⟨Nat.le_of_ble_eq_true rfl, Nat.le_of_ble_eq_true rfl⟩ ⟨Nat.zero_le _, Nat.zero_le _⟩ hw rfl rfl (Nat.le_of_ble_eq_true rfl) dX5_ring_4 (fun H locs hw => ?_)
  have hw : zHw x A s.heap (zHW x b t S l0 T l1 K l2 ik fd tb tq bo so nn) H locs := hw
  refine lv_if_ne (tgt := 17) hx hb dX5_ring_7 (by decide) (fun c7 => ?_) (fun c7 => ?_)
  · have c7 := zb_n0.mp c7
    obtain ⟨j, hj, rfl⟩ := zBw_nat (hi := 52) c7 (by decide) (by decide)
    refine lv_iconst (v := (-1)) hx hb dX5_ring_17 (by decide) ?_
    refine lv_istore_n (lv' := [(2, .int (-1)), (0, .ref (b 0)), (1, .int (nI j))]) hx hb dX5_ring_18 rfl hl (by decide) rfl (fun ls hl => ?_)
    refine lv_iconst (v := 0) hx hb dX5_ring_19 (by decide) ?_
    refine lv_istore_n (lv' := [(3, .int 0), (2, .int (-1)), (0, .ref (b 0)), (1, .int (nI j))]) hx hb dX5_ring_20 rfl hl (by decide) rfl (fun ls hl => ?_)
    refine lv_iconst (v := 0) hx hb dX5_ring_21 (by decide) ?_
    refine lv_istore (lv' := [(4, .int 0), (3, .int 0), (2, .int (-1)), (0, .ref (b 0)), (1, .int (nI j))]) hx hb dX5_ring_22 hl (by decide) rfl (fun ls hl => ?_)
    have loop24 : ∀ (dd : Nat) (k : Nat) (U : zT) (lj : Int32), zN S - k < dd → (hk : k ≤ zN S) → ∀ (H : Heap) (locs : List Loc) (ls : Array Slot), zHw x A s.heap (zHW x b t S l0 U lj K l2 ik fd tb tq bo so nn) H locs → lv_has ls 7 [(0, .ref (b 0)), (1, .int (nI j)), (2, .int (zo (zRb S j k).1)), (3, .int ((zRb S j k).2)), (4, .int (nI k))] → W p x.1 e (zRM 6) s m ar below meth c H locs 0 0 Q (F0 m 24 ls []) := by
      intro dd
      induction dd with
      | zero => intro k U lj hm; exact absurd hm (Nat.not_lt_zero _)
      | succ dd ih24 =>
        intro k U lj hm hk H locs ls hw hl
        refine lv_iload hx hb dX5_ring_24 (lv_at hl 4 rfl) ?_
        refine lv_aload_n hx hb dX5_ring_26 rfl (lv_at hl 0 rfl) ?_
        refine gfX5_10 hx hb hown hts hK hw 0 rfl rfl dX5_ring_27 ?_
        refine gfX5_179 hx hb hown hts hK hw 3 rfl rfl dX5_ring_30 ?_
        refine lv_icmp_ge (tgt := 100) hx hb dX5_ring_33 (by decide) (fun c33 => ?_) (fun c33 => ?_)
        · have hke : k = zN S := zke hz0 (by omega) hk c33
          rcases hbb : (zRb S j k).1 with _ | d
          · have hl : lv_has ls 7 [(0, .ref (b 0)), (1, .int (nI j)), (2, .int (-1)), (3, .int ((zRb S j k).2)), (4, .int (nI k))] := by
              rw [show (-1) = zo (zRb S j k).1 from (by rw [hbb]; rfl)]; exact hl
            refine lv_iload_n hx hb dX5_ring_100 rfl (lv_at hl 2 rfl) ?_
            refine lv_if_ge (tgt := 113) hx hb dX5_ring_101 (by decide) (fun c101 => absurd c101 (by decide)) (fun c101 => ?_)
            refine lv_aload_n hx hb dX5_ring_104 rfl (lv_at hl 0 rfl) ?_
            refine lv_ldc (v := (-1000000004)) hx hb hown (hts _ ckX5_142) dX5_ring_105 ?_
            refine zcVwi (r := (-1000000004)) hx hb hml hown hts hl.1 hK hE hA lkX5_52 (c_X5_found x b t S l0 U lj K l2 ik fd tb tq bo so nn (-1000000004) 3 (by decide) (by decide)) ⟨Nat.le_of_ble_eq_true rfl, Nat.le_of_ble_eq_true rfl⟩ ⟨Nat.zero_le _, Nat.zero_le _⟩ hw 0 3 rfl rfl rfl rfl (Nat.le_of_ble_eq_true rfl) dX5_ring_107 (fun H locs hw => ?_)
            have hw : zHw x A s.heap (zHW x b t S l0 U lj K l2 ik (upd fd 3 (fd 3 + 1)) tb tq bo so nn) H locs := hw
            refine lv_goto (tgt := 114) hx hb dX5_ring_110 (by decide) ?_
            exact zFG.iret hx hb hr hlocks hQ hw rfl dX5_ring_114 (zPH.mk (r := zm_ring S fd (nI j)) (v := (-1000000004)) (S' := S) (fd' := zFd fd 3) (by unfold zm_ring; rw [if_pos c7, zc_nI (show j < 2147483648 by omega), ← hke, hbb]))
          · have hbk := zRb_lt S j k d hbb
            have hl : lv_has ls 7 [(0, .ref (b 0)), (1, .int (nI j)), (2, .int (nI d)), (3, .int ((zRb S j k).2)), (4, .int (nI k))] := by
              rw [show nI d = zo (zRb S j k).1 from (by rw [hbb]; rfl)]; exact hl
            refine lv_iload_n hx hb dX5_ring_100 rfl (lv_at hl 2 rfl) ?_
            refine lv_if_ge (tgt := 113) hx hb dX5_ring_101 (by decide) (fun c101 => ?_) (fun c101 => absurd (nI_pos' (by omega)) c101)
            refine lv_iload_n hx hb dX5_ring_113 rfl (lv_at hl 2 rfl) ?_
            exact zFG.iret hx hb hr hlocks hQ hw rfl dX5_ring_114 (zPH.mk (r := zm_ring S fd (nI j)) (v := nI d) (S' := S) (fd' := fd) (by unfold zm_ring; rw [if_pos c7, zc_nI (show j < 2147483648 by omega), ← hke, hbb]))
        · have hkn : k < zN S := zkn hz0 (by omega) hk c33
          refine lv_aload_n hx hb dX5_ring_36 rfl (lv_at hl 0 rfl) ?_
          refine gfX5_10 hx hb hown hts hK hw 0 rfl rfl dX5_ring_37 ?_
          refine gfX5_182 hx hb hown hts hK hw 3 rfl rfl dX5_ring_40 ?_
          refine lv_iload hx hb dX5_ring_43 (lv_at hl 4 rfl) ?_
          refine zial hx hb hK hw 11 0 k rfl rfl rfl (by omega) (by decide) dX5_ring_45 ?_
          refine lv_if_eq (tgt := 52) hx hb dX5_ring_46 (by decide) (fun c46 => ?_) (fun c46 => ?_)
          · refine lv_aload_n hx hb dX5_ring_52 rfl (lv_at hl 0 rfl) ?_
            refine zcVwa hx hb hml hown hts hl.1 hK hE hA lkX5_171 (c_X5_asItIs x b t S l0 U lj K l2 ik fd tb tq bo so nn) ⟨Nat.le_of_ble_eq_true rfl, Nat.le_of_ble_eq_true rfl⟩ ⟨Nat.zero_le _, Nat.zero_le _⟩ hw 0 3 rfl rfl rfl rfl (Nat.le_of_ble_eq_true rfl) dX5_ring_53 (fun H locs hw => ?_)
            have hw : zHw x A s.heap (zHW x b t S l0 S 1000 K l2 ik fd tb tq bo so nn) H locs := hw
            refine lv_astore (lv' := [(5, .ref ((t 1) 0)), (0, .ref (b 0)), (1, .int (nI j)), (2, .int (zo (zRb S j k).1)), (3, .int ((zRb S j k).2)), (4, .int (nI k))]) hx hb dX5_ring_56 hl (by decide) rfl (fun ls hl => ?_)
            refine lv_aload hx hb dX5_ring_58 (lv_at hl 0 rfl) ?_
            refine gfX5_182 hx hb hown hts hK hw 12 rfl rfl dX5_ring_60 ?_
            refine lv_iload hx hb dX5_ring_63 (lv_at hl 5 rfl) ?_
            refine lv_iconst (v := 1) hx hb dX5_ring_65 (by decide) ?_
            refine zias hx hb hK hw 20 0 k rfl rfl rfl (by omega) (by decide) dX5_ring_66 (fun H locs hw => ?_)
            have hw : zHw x A s.heap (zHW x b t S l0 (zU S 8 k 1) 1000 K l2 ik fd tb tq bo so nn) H locs := hw
            refine lv_aload hx hb dX5_ring_67 (lv_at hl 0 rfl) ?_
            refine lv_iload_n hx hb dX5_ring_69 rfl (lv_at hl 2 rfl) ?_
            refine zcVma (C1 := (zOW x b t ik fd ++ zTW x (t 0) S l0)) (C2 := (zTW x (t 2) K l2 ++ (zPW x b tb tq ++ (zSH x (b 5) (b 9) (bo 0) (so 0) (nn 0) ++ (zSH x (b 6) (b 10) (bo 1) (so 1) (nn 1) ++ (zSH x (b 7) (b 11) (bo 2) (so 2) (nn 2) ++ zSH x (b 8) (b 12) (bo 3) (so 3) (nn 3))))))) hx hb hml hown hts hl.1 hK hE hA lkX5_146 (c_X3_goWeeks x (t 1) (zU S 8 k 1) 1000 j (hI.u (c := 8) (j := k) (v := 1) (Or.inr ⟨1, (show 1 ≤ 1 by decide), rfl⟩)) (by omega)) ⟨Nat.le_of_ble_eq_true rfl, Nat.le_of_ble_eq_true rfl⟩ ⟨Nat.zero_le _, Nat.zero_le _⟩ hw 0 2 rfl rfl rfl rfl (Nat.le_of_ble_eq_true rfl) dX5_ring_70 (fun H locs hw => ?_)
            have hw : zHw x A s.heap (zHW x b t S l0 (zGo j (zU S 8 k 1)) (zGl j (zU S 8 k 1) 1000) K l2 ik fd tb tq bo so nn) H locs := hw
            refine zcVmi (r := zSu (zopn (zGo j (zU S 8 k 1))) ((zGo j (zU S 8 k 1)) 5) (zN (zGo j (zU S 8 k 1)))) (C1 := (zOW x b t ik fd ++ zTW x (t 0) S l0)) (C2 := (zTW x (t 2) K l2 ++ (zPW x b tb tq ++ (zSH x (b 5) (b 9) (bo 0) (so 0) (nn 0) ++ (zSH x (b 6) (b 10) (bo 1) (so 1) (nn 1) ++ (zSH x (b 7) (b 11) (bo 2) (so 2) (nn 2) ++ zSH x (b 8) (b 12) (bo 3) (so 3) (nn 3))))))) hx hb hml hown hts hl.1 hK hE hA lkX5_168 (c_X3_openSize x (t 1) (zGo j (zU S 8 k 1)) (zGl j (zU S 8 k 1) 1000) ((zGo_ok j (hI.u (c := 8) (j := k) (v := 1) (Or.inr ⟨1, (show 1 ≤ 1 by decide), rfl⟩))).1)) ⟨Nat.le_of_ble_eq_true rfl, Nat.le_of_ble_eq_true rfl⟩ ⟨Nat.zero_le _, Nat.zero_le _⟩ hw 0 2 rfl rfl rfl rfl (Nat.le_of_ble_eq_true rfl) dX5_ring_73 (fun H locs hw => ?_)
            have hw : zHw x A s.heap (zHW x b t S l0 (zGo j (zU S 8 k 1)) (zGl j (zU S 8 k 1) 1000) K l2 ik fd tb tq bo so nn) H locs := hw
            refine lv_istore (lv' := [(6, .int (zSu (zopn (zGo j (zU S 8 k 1))) ((zGo j (zU S 8 k 1)) 5) (zN (zGo j (zU S 8 k 1))))), (5, .ref ((t 1) 0)), (0, .ref (b 0)), (1, .int (nI j)), (2, .int (zo (zRb S j k).1)), (3, .int ((zRb S j k).2)), (4, .int (nI k))]) hx hb dX5_ring_76 hl (by decide) rfl (fun ls hl => ?_)
            rcases hbb : (zRb S j k).1 with _ | d
            · have hl : lv_has ls 7 [(6, .int (zSu (zopn (zGo j (zU S 8 k 1))) ((zGo j (zU S 8 k 1)) 5) (zN (zGo j (zU S 8 k 1))))), (5, .ref ((t 1) 0)), (0, .ref (b 0)), (1, .int (nI j)), (2, .int (-1)), (3, .int ((zRb S j k).2)), (4, .int (nI k))] := by
                rw [show (-1) = zo (zRb S j k).1 from (by rw [hbb]; rfl)]; exact hl
              refine lv_iload_n hx hb dX5_ring_78 rfl (lv_at hl 4 rfl) ?_
              refine lv_if_lt (tgt := 88) hx hb dX5_ring_79 (by decide) (fun c79 => ?_) (fun c79 => absurd (by decide) c79)
              refine lv_iload hx hb dX5_ring_88 (lv_at hl 6 rfl) ?_
              refine lv_istore_n (lv' := [(2, .int (nI k)), (6, .int (zSu (zopn (zGo j (zU S 8 k 1))) ((zGo j (zU S 8 k 1)) 5) (zN (zGo j (zU S 8 k 1))))), (5, .ref ((t 1) 0)), (0, .ref (b 0)), (1, .int (nI j)), (3, .int ((zRb S j k).2)), (4, .int (nI k))]) hx hb dX5_ring_90 rfl hl (by decide) rfl (fun ls hl => ?_)
              refine lv_iload hx hb dX5_ring_91 (lv_at hl 1 rfl) ?_
              refine lv_istore_n (lv' := [(3, .int (zSu (zopn (zGo j (zU S 8 k 1))) ((zGo j (zU S 8 k 1)) 5) (zN (zGo j (zU S 8 k 1))))), (2, .int (nI k)), (6, .int (zSu (zopn (zGo j (zU S 8 k 1))) ((zGo j (zU S 8 k 1)) 5) (zN (zGo j (zU S 8 k 1))))), (5, .ref ((t 1) 0)), (0, .ref (b 0)), (1, .int (nI j)), (4, .int (nI k))]) hx hb dX5_ring_93 rfl hl (by decide) rfl (fun ls hl => ?_)
              have hrb : zRb S j (k + 1) = _ := zRb_pos c46 (Or.inl hbb)
              have hl : lv_has ls 7 [(3, .int (zSu (zopn (zGo j (zU S 8 k 1))) ((zGo j (zU S 8 k 1)) 5) (zN (zGo j (zU S 8 k 1))))), (2, .int (zo (zRb S j (k + 1)).1)), (6, .int (zSu (zopn (zGo j (zU S 8 k 1))) ((zGo j (zU S 8 k 1)) 5) (zN (zGo j (zU S 8 k 1))))), (5, .ref ((t 1) 0)), (0, .ref (b 0)), (1, .int (nI j)), (4, .int (nI k))] := by
                rw [show zo (zRb S j (k + 1)).1 = nI k from (by first | (rw [hrb]; done) | (rw [hrb]; rfl) | (rw [hrb, hbb]; rfl))]; exact hl
              have hl : lv_has ls 7 [(3, .int ((zRb S j (k + 1)).2)), (2, .int (zo (zRb S j (k + 1)).1)), (6, .int (zSu (zopn (zGo j (zU S 8 k 1))) ((zGo j (zU S 8 k 1)) 5) (zN (zGo j (zU S 8 k 1))))), (5, .ref ((t 1) 0)), (0, .ref (b 0)), (1, .int (nI j)), (4, .int (nI k))] := by
                rw [show (zRb S j (k + 1)).2 = zSu (zopn (zGo j (zU S 8 k 1))) ((zGo j (zU S 8 k 1)) 5) (zN (zGo j (zU S 8 k 1))) from (by first | (rw [hrb]; done) | (rw [hrb]; rfl))]; exact hl
              refine lv_iinc (v := nI (k + 1)) (lv' := [(4, .int (nI (k + 1))), (3, .int ((zRb S j (k + 1)).2)), (2, .int (zo (zRb S j (k + 1)).1)), (6, .int (zSu (zopn (zGo j (zU S 8 k 1))) ((zGo j (zU S 8 k 1)) 5) (zN (zGo j (zU S 8 k 1))))), (5, .ref ((t 1) 0)), (0, .ref (b 0)), (1, .int (nI j))]) hx hb dX5_ring_94 hl (k := 6) rfl (nI_1 k) (by decide) rfl (fun ls hl => ?_)
              refine lv_goto (tgt := 24) hx hb dX5_ring_97 (by decide) ?_
              exact ih24 (k + 1) (zGo j (zU S 8 k 1)) (zGl j (zU S 8 k 1) 1000) (by omega) (by omega) _ _ _ hw (lv_sub hl [5, 6, 2, 1, 0] rfl)
            · have hbk := zRb_lt S j k d hbb
              have hl : lv_has ls 7 [(6, .int (zSu (zopn (zGo j (zU S 8 k 1))) ((zGo j (zU S 8 k 1)) 5) (zN (zGo j (zU S 8 k 1))))), (5, .ref ((t 1) 0)), (0, .ref (b 0)), (1, .int (nI j)), (2, .int (nI d)), (3, .int ((zRb S j k).2)), (4, .int (nI k))] := by
                rw [show nI d = zo (zRb S j k).1 from (by rw [hbb]; rfl)]; exact hl
              refine lv_iload_n hx hb dX5_ring_78 rfl (lv_at hl 4 rfl) ?_
              refine lv_if_lt (tgt := 88) hx hb dX5_ring_79 (by decide) (fun c79 => absurd c79 (nI_pos (by omega))) (fun c79 => ?_)
              refine lv_iload hx hb dX5_ring_82 (lv_at hl 0 rfl) ?_
              refine lv_iload_n hx hb dX5_ring_84 rfl (lv_at hl 5 rfl) ?_
              refine lv_icmp_ge (tgt := 94) hx hb dX5_ring_85 (by decide) (fun c85 => ?_) (fun c85 => ?_)
              · have hrb : zRb S j (k + 1) = _ := zRb_neg2 hbb (Int32.not_lt.mpr c85)
                have hl : lv_has ls 7 [(6, .int (zSu (zopn (zGo j (zU S 8 k 1))) ((zGo j (zU S 8 k 1)) 5) (zN (zGo j (zU S 8 k 1))))), (5, .ref ((t 1) 0)), (0, .ref (b 0)), (1, .int (nI j)), (2, .int (zo (zRb S j (k + 1)).1)), (3, .int ((zRb S j k).2)), (4, .int (nI k))] := by
                  rw [show zo (zRb S j (k + 1)).1 = nI d from (by first | (rw [hrb]; done) | (rw [hrb]; rfl) | (rw [hrb, hbb]; rfl))]; exact hl
                have hl : lv_has ls 7 [(6, .int (zSu (zopn (zGo j (zU S 8 k 1))) ((zGo j (zU S 8 k 1)) 5) (zN (zGo j (zU S 8 k 1))))), (5, .ref ((t 1) 0)), (0, .ref (b 0)), (1, .int (nI j)), (2, .int (zo (zRb S j (k + 1)).1)), (3, .int ((zRb S j (k + 1)).2)), (4, .int (nI k))] := by
                  rw [show (zRb S j (k + 1)).2 = (zRb S j k).2 from (by first | (rw [hrb]; done) | (rw [hrb]; rfl))]; exact hl
                refine lv_iinc (v := nI (k + 1)) (lv' := [(4, .int (nI (k + 1))), (6, .int (zSu (zopn (zGo j (zU S 8 k 1))) ((zGo j (zU S 8 k 1)) 5) (zN (zGo j (zU S 8 k 1))))), (5, .ref ((t 1) 0)), (0, .ref (b 0)), (1, .int (nI j)), (2, .int (zo (zRb S j (k + 1)).1)), (3, .int ((zRb S j (k + 1)).2))]) hx hb dX5_ring_94 hl (k := 6) rfl (nI_1 k) (by decide) rfl (fun ls hl => ?_)
                refine lv_goto (tgt := 24) hx hb dX5_ring_97 (by decide) ?_
                exact ih24 (k + 1) (zGo j (zU S 8 k 1)) (zGl j (zU S 8 k 1) 1000) (by omega) (by omega) _ _ _ hw (lv_sub hl [3, 4, 5, 6, 0] rfl)
              · refine lv_iload hx hb dX5_ring_88 (lv_at hl 6 rfl) ?_
                refine lv_istore_n (lv' := [(2, .int (nI k)), (6, .int (zSu (zopn (zGo j (zU S 8 k 1))) ((zGo j (zU S 8 k 1)) 5) (zN (zGo j (zU S 8 k 1))))), (5, .ref ((t 1) 0)), (0, .ref (b 0)), (1, .int (nI j)), (3, .int ((zRb S j k).2)), (4, .int (nI k))]) hx hb dX5_ring_90 rfl hl (by decide) rfl (fun ls hl => ?_)
                refine lv_iload hx hb dX5_ring_91 (lv_at hl 1 rfl) ?_
                refine lv_istore_n (lv' := [(3, .int (zSu (zopn (zGo j (zU S 8 k 1))) ((zGo j (zU S 8 k 1)) 5) (zN (zGo j (zU S 8 k 1))))), (2, .int (nI k)), (6, .int (zSu (zopn (zGo j (zU S 8 k 1))) ((zGo j (zU S 8 k 1)) 5) (zN (zGo j (zU S 8 k 1))))), (5, .ref ((t 1) 0)), (0, .ref (b 0)), (1, .int (nI j)), (4, .int (nI k))]) hx hb dX5_ring_93 rfl hl (by decide) rfl (fun ls hl => ?_)
                have hrb : zRb S j (k + 1) = _ := zRb_pos c46 (Or.inr (Int32.not_le.mp c85))
                have hl : lv_has ls 7 [(3, .int (zSu (zopn (zGo j (zU S 8 k 1))) ((zGo j (zU S 8 k 1)) 5) (zN (zGo j (zU S 8 k 1))))), (2, .int (zo (zRb S j (k + 1)).1)), (6, .int (zSu (zopn (zGo j (zU S 8 k 1))) ((zGo j (zU S 8 k 1)) 5) (zN (zGo j (zU S 8 k 1))))), (5, .ref ((t 1) 0)), (0, .ref (b 0)), (1, .int (nI j)), (4, .int (nI k))] := by
                  rw [show zo (zRb S j (k + 1)).1 = nI k from (by first | (rw [hrb]; done) | (rw [hrb]; rfl) | (rw [hrb, hbb]; rfl))]; exact hl
                have hl : lv_has ls 7 [(3, .int ((zRb S j (k + 1)).2)), (2, .int (zo (zRb S j (k + 1)).1)), (6, .int (zSu (zopn (zGo j (zU S 8 k 1))) ((zGo j (zU S 8 k 1)) 5) (zN (zGo j (zU S 8 k 1))))), (5, .ref ((t 1) 0)), (0, .ref (b 0)), (1, .int (nI j)), (4, .int (nI k))] := by
                  rw [show (zRb S j (k + 1)).2 = zSu (zopn (zGo j (zU S 8 k 1))) ((zGo j (zU S 8 k 1)) 5) (zN (zGo j (zU S 8 k 1))) from (by first | (rw [hrb]; done) | (rw [hrb]; rfl))]; exact hl
                refine lv_iinc (v := nI (k + 1)) (lv' := [(4, .int (nI (k + 1))), (3, .int ((zRb S j (k + 1)).2)), (2, .int (zo (zRb S j (k + 1)).1)), (6, .int (zSu (zopn (zGo j (zU S 8 k 1))) ((zGo j (zU S 8 k 1)) 5) (zN (zGo j (zU S 8 k 1))))), (5, .ref ((t 1) 0)), (0, .ref (b 0)), (1, .int (nI j))]) hx hb dX5_ring_94 hl (k := 6) rfl (nI_1 k) (by decide) rfl (fun ls hl => ?_)
                refine lv_goto (tgt := 24) hx hb dX5_ring_97 (by decide) ?_
                exact ih24 (k + 1) (zGo j (zU S 8 k 1)) (zGl j (zU S 8 k 1) 1000) (by omega) (by omega) _ _ _ hw (lv_sub hl [5, 6, 2, 1, 0] rfl)
          · refine lv_goto (tgt := 94) hx hb dX5_ring_49 (by decide) ?_
            have hrb : zRb S j (k + 1) = _ := zRb_neg (fun h => c46 h.1)
            have hl : lv_has ls 7 [(0, .ref (b 0)), (1, .int (nI j)), (2, .int (zo (zRb S j (k + 1)).1)), (3, .int ((zRb S j k).2)), (4, .int (nI k))] := by
              rw [show zo (zRb S j (k + 1)).1 = zo (zRb S j k).1 from (by first | (rw [hrb]; done) | (rw [hrb]; rfl) | (rw [hrb, hbb]; rfl))]; exact hl
            have hl : lv_has ls 7 [(0, .ref (b 0)), (1, .int (nI j)), (2, .int (zo (zRb S j (k + 1)).1)), (3, .int ((zRb S j (k + 1)).2)), (4, .int (nI k))] := by
              rw [show (zRb S j (k + 1)).2 = (zRb S j k).2 from (by first | (rw [hrb]; done) | (rw [hrb]; rfl))]; exact hl
            refine lv_iinc (v := nI (k + 1)) (lv' := [(4, .int (nI (k + 1))), (0, .ref (b 0)), (1, .int (nI j)), (2, .int (zo (zRb S j (k + 1)).1)), (3, .int ((zRb S j (k + 1)).2))]) hx hb dX5_ring_94 hl (k := 4) rfl (nI_1 k) (by decide) rfl (fun ls hl => ?_)
            refine lv_goto (tgt := 24) hx hb dX5_ring_97 (by decide) ?_
            exact ih24 (k + 1) U lj (by omega) (by omega) _ _ _ hw (lv_sub hl [1, 2, 3, 4, 0] rfl)
    exact loop24 (_ + 1) 0 T l1 (Nat.lt_succ_self _) (Nat.zero_le _) _ _ _ hw (lv_sub hl [3, 4, 2, 1, 0] rfl)
  · have c7 := zb_0.mp c7
    refine lv_aload_n hx hb dX5_ring_10 rfl (lv_at hl 0 rfl) ?_
    refine lv_ldc (v := (-1000000001)) hx hb hown (hts _ ckX5_51) dX5_ring_11 ?_
    refine zcVwi (r := (-1000000001)) hx hb hml hown hts hl.1 hK hE hA lkX5_52 (c_X5_found x b t S l0 T l1 K l2 ik fd tb tq bo so nn (-1000000001) 0 (by decide) (by decide)) ⟨Nat.le_of_ble_eq_true rfl, Nat.le_of_ble_eq_true rfl⟩ ⟨Nat.zero_le _, Nat.zero_le _⟩ hw 0 3 rfl rfl rfl rfl (Nat.le_of_ble_eq_true rfl) dX5_ring_13 (fun H locs hw => ?_)
    have hw : zHw x A s.heap (zHW x b t S l0 T l1 K l2 ik (upd fd 0 (fd 0 + 1)) tb tq bo so nn) H locs := hw
    exact zFG.iret hx hb hr hlocks hQ hw rfl dX5_ring_16 (zPH.mk (r := zm_ring S fd n) (v := (-1000000001)) (S' := S) (fd' := zFd fd 0) (by unfold zm_ring; rw [if_neg c7]; rfl))

set_option maxHeartbeats 4000000 in
set_option maxRecDepth 100000 in
theorem c_X5_men (x : zX) (b : Nat → Nat) (t : Nat → Nat → Nat) (S : zT) (l0 : Int32) (T : zT) (l1 : Int32) (K : zT) (l2 ik : Int32) (fd tb tq bo so : Nat → Int32) (nn : Nat → Nat → Int64) (n v : Int32) (hI : zInv S) : zFG x mX5_men 6 [.ref (b 0), .int n, .int v] (zHW x b t S l0 T l1 K l2 ik fd tb tq bo so nn) (zPH x b t K l2 ik tb tq bo so nn (zm_least 4 6 52 S fd n v)) := by
  refine zFG.start RX5 cX5_men 5 (some .int) rfl rfl (by decide +kernel) (Nat.le_of_ble_eq_true rfl) ?_
  intro p e s m ar below meth c ls A Q hx hb hr hml hown hts hlocks hK hE hA hQ hl hw
  have hl : lv_has ls 5 [(0, .ref (b 0)), (1, .int n), (2, .int v)] := hl
  have hw : zHw x A s.heap (zHW x b t S l0 T l1 K l2 ik fd tb tq bo so nn) s.heap [] := hw
  refine lv_iload_n hx hb dX5_men_0 rfl (lv_at hl 1 rfl) ?_
  refine lv_iconst (v := 1) hx hb dX5_men_1 (by decide) ?_
  refine lv_bipush (v := 52) hx hb dX5_men_2 (by decide) ?_
  refine zcSwi (r := zb (1 ≤ n ∧ n ≤ 52)) hx hb hml hown hts hl.1 hK hE hA lkX5_44 (c_X5_within x (zHW x b t S l0 T l1 K l2 ik fd tb tq bo so nn) n 1 52) ⟨Nat.le_of_ble_eq_true rfl, Nat.le_of_ble_eq_true rfl⟩ ⟨Nat.zero_le _, Nat.zero_le _⟩ hw rfl rfl (Nat.le_of_ble_eq_true rfl) dX5_men_4 (fun H locs hw => ?_)
  have hw : zHw x A s.heap (zHW x b t S l0 T l1 K l2 ik fd tb tq bo so nn) H locs := hw
  refine lv_if_eq (tgt := 21) hx hb dX5_men_7 (by decide) (fun c7 => ?_) (fun c7 => ?_)
  · have c7 := zb_0.mp c7
    refine lv_aload_n hx hb dX5_men_21 rfl (lv_at hl 0 rfl) ?_
    refine lv_ldc (v := (-1000000001)) hx hb hown (hts _ ckX5_51) dX5_men_22 ?_
    refine zcVwi (r := (-1000000001)) hx hb hml hown hts hl.1 hK hE hA lkX5_52 (c_X5_found x b t S l0 T l1 K l2 ik fd tb tq bo so nn (-1000000001) 0 (by decide) (by decide)) ⟨Nat.le_of_ble_eq_true rfl, Nat.le_of_ble_eq_true rfl⟩ ⟨Nat.zero_le _, Nat.zero_le _⟩ hw 0 3 rfl rfl rfl rfl (Nat.le_of_ble_eq_true rfl) dX5_men_24 (fun H locs hw => ?_)
    have hw : zHw x A s.heap (zHW x b t S l0 T l1 K l2 ik (upd fd 0 (fd 0 + 1)) tb tq bo so nn) H locs := hw
    exact zFG.iret hx hb hr hlocks hQ hw rfl dX5_men_27 (zPH.mk (r := zm_least 4 6 52 S fd n v) (v := (-1000000001)) (S' := S) (fd' := zFd fd 0) (by unfold zm_least; first | (rw [if_neg (fun h => c18 h.2)]; rfl) | (rw [if_neg (fun h => c7 h.1)]; rfl)))
  · have c7 := zb_n0.mp c7
    refine lv_iload_n hx hb dX5_men_10 rfl (lv_at hl 2 rfl) ?_
    refine lv_iconst (v := 0) hx hb dX5_men_11 (by decide) ?_
    refine lv_sipush (v := 999) hx hb dX5_men_12 (by decide) ?_
    refine zcSwi (r := zb (0 ≤ v ∧ v ≤ 999)) hx hb hml hown hts hl.1 hK hE hA lkX5_44 (c_X5_within x (zHW x b t S l0 T l1 K l2 ik fd tb tq bo so nn) v 0 999) ⟨Nat.le_of_ble_eq_true rfl, Nat.le_of_ble_eq_true rfl⟩ ⟨Nat.zero_le _, Nat.zero_le _⟩ hw rfl rfl (Nat.le_of_ble_eq_true rfl) dX5_men_15 (fun H locs hw => ?_)
    have hw : zHw x A s.heap (zHW x b t S l0 T l1 K l2 ik fd tb tq bo so nn) H locs := hw
    refine lv_if_ne (tgt := 28) hx hb dX5_men_18 (by decide) (fun c18 => ?_) (fun c18 => ?_)
    · have c18 := zb_n0.mp c18
      obtain ⟨j, hj, rfl⟩ := zBw_nat (hi := 52) c7 (by decide) (by decide)
      refine lv_iconst (v := 0) hx hb dX5_men_28 (by decide) ?_
      refine lv_istore_n (lv' := [(3, .int 0), (0, .ref (b 0)), (1, .int (nI j)), (2, .int v)]) hx hb dX5_men_29 rfl hl (by decide) rfl (fun ls hl => ?_)
      have loop30 : ∀ (dd : Nat) (k : Nat) (U : zT) (lj : Int32), 7 - k < dd → (hk : k ≤ 7) → (e1 : zF1 (zpL S 4 j v) (7 - k) k = zF1 (zpL S 4 j v) 7 0) → ∀ (H : Heap) (locs : List Loc) (ls : Array Slot), zHw x A s.heap (zHW x b t S l0 U lj K l2 ik fd tb tq bo so nn) H locs → lv_has ls 5 [(0, .ref (b 0)), (1, .int (nI j)), (2, .int v), (3, .int (nI k))] → W p x.1 e (zRM 6) s m ar below meth c H locs 0 0 Q (F0 m 30 ls []) := by
        intro dd
        induction dd with
        | zero => intro k U lj hm; exact absurd hm (Nat.not_lt_zero _)
        | succ dd ih30 =>
          intro k U lj hm hk e1 H locs ls hw hl
          refine lv_iload_n hx hb dX5_men_30 rfl (lv_at hl 3 rfl) ?_
          refine lv_bipush (v := 6) hx hb dX5_men_31 (by decide) ?_
          refine lv_icmp_gt (tgt := 69) hx hb dX5_men_33 (by decide) (fun c33 => ?_) (fun c33 => ?_)
          · refine lv_aload_n hx hb dX5_men_69 rfl (lv_at hl 0 rfl) ?_
            refine lv_ldc (v := (-1000000004)) hx hb hown (hts _ ckX5_142) dX5_men_70 ?_
            refine zcVwi (r := (-1000000004)) hx hb hml hown hts hl.1 hK hE hA lkX5_52 (c_X5_found x b t S l0 U lj K l2 ik fd tb tq bo so nn (-1000000004) 3 (by decide) (by decide)) ⟨Nat.le_of_ble_eq_true rfl, Nat.le_of_ble_eq_true rfl⟩ ⟨Nat.zero_le _, Nat.zero_le _⟩ hw 0 3 rfl rfl rfl rfl (Nat.le_of_ble_eq_true rfl) dX5_men_72 (fun H locs hw => ?_)
            have hw : zHw x A s.heap (zHW x b t S l0 U lj K l2 ik (upd fd 3 (fd 3 + 1)) tb tq bo so nn) H locs := hw
            exact zFG.iret hx hb hr hlocks hQ hw rfl dX5_men_75 (zPH.mk (r := zm_least 4 6 52 S fd (nI j) v) (v := (-1000000004)) (S' := S) (fd' := zFd fd 3) (by have e5 : k = 7 := zgt hk c33; unfold zm_least; rw [if_pos ⟨c7, c18⟩, zc_nI (show j < 2147483648 by omega), ← e1, e5]; rfl))
          · have hkn : k ≤ 6 := (nI_leI (b := 6) (by omega) (by decide)).mp (Int32.not_lt.mp c33)
            have hd : 7 - k = (7 - (k + 1)) + 1 := by omega
            refine lv_aload_n hx hb dX5_men_36 rfl (lv_at hl 0 rfl) ?_
            refine zcVwa hx hb hml hown hts hl.1 hK hE hA lkX5_171 (c_X5_asItIs x b t S l0 U lj K l2 ik fd tb tq bo so nn) ⟨Nat.le_of_ble_eq_true rfl, Nat.le_of_ble_eq_true rfl⟩ ⟨Nat.zero_le _, Nat.zero_le _⟩ hw 0 3 rfl rfl rfl rfl (Nat.le_of_ble_eq_true rfl) dX5_men_37 (fun H locs hw => ?_)
            have hw : zHw x A s.heap (zHW x b t S l0 S 1000 K l2 ik fd tb tq bo so nn) H locs := hw
            refine lv_astore (lv' := [(4, .ref ((t 1) 0)), (0, .ref (b 0)), (1, .int (nI j)), (2, .int v), (3, .int (nI k))]) hx hb dX5_men_40 hl (by decide) rfl (fun ls hl => ?_)
            refine lv_aload hx hb dX5_men_42 (lv_at hl 0 rfl) ?_
            refine lv_iload_n hx hb dX5_men_44 rfl (lv_at hl 4 rfl) ?_
            refine pfX5_153 hx hb hown hts hK hw 12 rfl (Nat.le_of_ble_eq_true rfl) dX5_men_45 (fun H locs hw => ?_)
            have hw : zHw x A s.heap (zHW x b t S l0 (zU S 0 4 (nI k)) 1000 K l2 ik fd tb tq bo so nn) H locs := hw
            refine lv_aload hx hb dX5_men_48 (lv_at hl 0 rfl) ?_
            refine lv_iload_n hx hb dX5_men_50 rfl (lv_at hl 2 rfl) ?_
            refine zcVma (C1 := (zOW x b t ik fd ++ zTW x (t 0) S l0)) (C2 := (zTW x (t 2) K l2 ++ (zPW x b tb tq ++ (zSH x (b 5) (b 9) (bo 0) (so 0) (nn 0) ++ (zSH x (b 6) (b 10) (bo 1) (so 1) (nn 1) ++ (zSH x (b 7) (b 11) (bo 2) (so 2) (nn 2) ++ zSH x (b 8) (b 12) (bo 3) (so 3) (nn 3))))))) hx hb hml hown hts hl.1 hK hE hA lkX5_146 (c_X3_goWeeks x (t 1) (zU S 0 4 (nI k)) 1000 j (hI.u (c := 0) (j := 4) (v := nI k) (Or.inr ⟨k, hkn, rfl⟩)) (by omega)) ⟨Nat.le_of_ble_eq_true rfl, Nat.le_of_ble_eq_true rfl⟩ ⟨Nat.zero_le _, Nat.zero_le _⟩ hw 0 2 rfl rfl rfl rfl (Nat.le_of_ble_eq_true rfl) dX5_men_51 (fun H locs hw => ?_)
            have hw : zHw x A s.heap (zHW x b t S l0 (zGo j (zU S 0 4 (nI k))) (zGl j (zU S 0 4 (nI k)) 1000) K l2 ik fd tb tq bo so nn) H locs := hw
            refine zcVmi (r := zSu (zopn (zGo j (zU S 0 4 (nI k)))) ((zGo j (zU S 0 4 (nI k))) 5) (zN (zGo j (zU S 0 4 (nI k))))) (C1 := (zOW x b t ik fd ++ zTW x (t 0) S l0)) (C2 := (zTW x (t 2) K l2 ++ (zPW x b tb tq ++ (zSH x (b 5) (b 9) (bo 0) (so 0) (nn 0) ++ (zSH x (b 6) (b 10) (bo 1) (so 1) (nn 1) ++ (zSH x (b 7) (b 11) (bo 2) (so 2) (nn 2) ++ zSH x (b 8) (b 12) (bo 3) (so 3) (nn 3))))))) hx hb hml hown hts hl.1 hK hE hA lkX5_168 (c_X3_openSize x (t 1) (zGo j (zU S 0 4 (nI k))) (zGl j (zU S 0 4 (nI k)) 1000) ((zGo_ok j (hI.u (c := 0) (j := 4) (v := nI k) (Or.inr ⟨k, hkn, rfl⟩))).1)) ⟨Nat.le_of_ble_eq_true rfl, Nat.le_of_ble_eq_true rfl⟩ ⟨Nat.zero_le _, Nat.zero_le _⟩ hw 0 2 rfl rfl rfl rfl (Nat.le_of_ble_eq_true rfl) dX5_men_54 (fun H locs hw => ?_)
            have hw : zHw x A s.heap (zHW x b t S l0 (zGo j (zU S 0 4 (nI k))) (zGl j (zU S 0 4 (nI k)) 1000) K l2 ik fd tb tq bo so nn) H locs := hw
            refine lv_iload_n hx hb dX5_men_57 rfl (lv_at hl 3 rfl) ?_
            refine lv_icmp_gt (tgt := 63) hx hb dX5_men_58 (by decide) (fun c58 => ?_) (fun c58 => ?_)
            · refine lv_iinc (v := nI (k + 1)) (lv' := [(3, .int (nI (k + 1))), (4, .ref ((t 1) 0)), (0, .ref (b 0)), (1, .int (nI j)), (2, .int v)]) hx hb dX5_men_63 hl (k := 4) rfl (nI_1 k) (by decide) rfl (fun ls hl => ?_)
              refine lv_goto (tgt := 30) hx hb dX5_men_66 (by decide) ?_
              exact ih30 (k + 1) (zGo j (zU S 0 4 (nI k))) (zGl j (zU S 0 4 (nI k)) 1000) (by omega) (by omega) (by rw [← e1, hd, zF1_f (fun e => absurd (of_decide_eq_true e) (Int32.not_le.mpr c58))]) _ _ _ hw (lv_sub hl [2, 3, 4, 0] rfl)
            · refine lv_iload_n hx hb dX5_men_61 rfl (lv_at hl 4 rfl) ?_
              exact zFG.iret hx hb hr hlocks hQ hw rfl dX5_men_62 (zPH.mk (r := zm_least 4 6 52 S fd (nI j) v) (v := nI k) (S' := S) (fd' := fd) (by unfold zm_least; rw [if_pos ⟨c7, c18⟩, zc_nI (show j < 2147483648 by omega), ← e1, hd, zF1_t (decide_eq_true (Int32.not_lt.mp c58))]))
      exact loop30 (_ + 1) 0 T l1 (Nat.lt_succ_self _) (Nat.zero_le _) rfl _ _ _ hw (lv_sub hl [1, 2, 3, 0] rfl)
    · have c18 := zb_0.mp c18
      refine lv_aload_n hx hb dX5_men_21 rfl (lv_at hl 0 rfl) ?_
      refine lv_ldc (v := (-1000000001)) hx hb hown (hts _ ckX5_51) dX5_men_22 ?_
      refine zcVwi (r := (-1000000001)) hx hb hml hown hts hl.1 hK hE hA lkX5_52 (c_X5_found x b t S l0 T l1 K l2 ik fd tb tq bo so nn (-1000000001) 0 (by decide) (by decide)) ⟨Nat.le_of_ble_eq_true rfl, Nat.le_of_ble_eq_true rfl⟩ ⟨Nat.zero_le _, Nat.zero_le _⟩ hw 0 3 rfl rfl rfl rfl (Nat.le_of_ble_eq_true rfl) dX5_men_24 (fun H locs hw => ?_)
      have hw : zHw x A s.heap (zHW x b t S l0 T l1 K l2 ik (upd fd 0 (fd 0 + 1)) tb tq bo so nn) H locs := hw
      exact zFG.iret hx hb hr hlocks hQ hw rfl dX5_men_27 (zPH.mk (r := zm_least 4 6 52 S fd n v) (v := (-1000000001)) (S' := S) (fd' := zFd fd 0) (by unfold zm_least; first | (rw [if_neg (fun h => c18 h.2)]; rfl) | (rw [if_neg (fun h => c7 h.1)]; rfl)))

set_option maxHeartbeats 4000000 in
set_option maxRecDepth 100000 in
theorem c_X5_kind (x : zX) (b : Nat → Nat) (t : Nat → Nat → Nat) (S : zT) (l0 : Int32) (T : zT) (l1 : Int32) (K : zT) (l2 ik : Int32) (fd tb tq bo so : Nat → Int32) (nn : Nat → Nat → Int64) (h n : Int32) (hI : zInv S) : zFG x mX5_kind 6 [.ref (b 0), .int h, .int n] (zHW x b t S l0 T l1 K l2 ik fd tb tq bo so nn) (zPH x b t K l2 ik tb tq bo so nn (zm_kind S fd h n)) := by
  refine zFG.start RX5 cX5_kind 7 (some .int) rfl rfl (by decide +kernel) (Nat.le_of_ble_eq_true rfl) ?_
  intro p e s m ar below meth c ls A Q hx hb hr hml hown hts hlocks hK hE hA hQ hl hw
  have hl : lv_has ls 7 [(0, .ref (b 0)), (1, .int h), (2, .int n)] := hl
  have hw : zHw x A s.heap (zHW x b t S l0 T l1 K l2 ik fd tb tq bo so nn) s.heap [] := hw
  refine lv_aload_n hx hb dX5_kind_0 rfl (lv_at hl 0 rfl) ?_
  refine gfX5_10 hx hb hown hts hK hw 0 rfl rfl dX5_kind_1 ?_
  refine lv_iload_n hx hb dX5_kind_4 rfl (lv_at hl 1 rfl) ?_
  refine zcVmi (r := zb (0 ≤ h ∧ h < S 0 0)) (C1 := (zOW x b t ik fd)) (C2 := (zTW x (t 1) T l1 ++ (zTW x (t 2) K l2 ++ (zPW x b tb tq ++ (zSH x (b 5) (b 9) (bo 0) (so 0) (nn 0) ++ (zSH x (b 6) (b 10) (bo 1) (so 1) (nn 1) ++ (zSH x (b 7) (b 11) (bo 2) (so 2) (nn 2) ++ zSH x (b 8) (b 12) (bo 3) (so 3) (nn 3)))))))) hx hb hml hown hts hl.1 hK hE hA lkX5_95 (c_X3_has x (t 0) S l0 h) ⟨Nat.le_of_ble_eq_true rfl, Nat.le_of_ble_eq_true rfl⟩ ⟨Nat.zero_le _, Nat.zero_le _⟩ hw 0 2 rfl rfl rfl rfl (Nat.le_of_ble_eq_true rfl) dX5_kind_5 (fun H locs hw => ?_)
  have hw : zHw x A s.heap (zHW x b t S l0 T l1 K l2 ik fd tb tq bo so nn) H locs := hw
  refine lv_if_eq (tgt := 21) hx hb dX5_kind_8 (by decide) (fun c8 => ?_) (fun c8 => ?_)
  · have c8 := zb_0.mp c8
    refine lv_aload_n hx hb dX5_kind_21 rfl (lv_at hl 0 rfl) ?_
    refine lv_ldc (v := (-1000000001)) hx hb hown (hts _ ckX5_51) dX5_kind_22 ?_
    refine zcVwi (r := (-1000000001)) hx hb hml hown hts hl.1 hK hE hA lkX5_52 (c_X5_found x b t S l0 T l1 K l2 ik fd tb tq bo so nn (-1000000001) 0 (by decide) (by decide)) ⟨Nat.le_of_ble_eq_true rfl, Nat.le_of_ble_eq_true rfl⟩ ⟨Nat.zero_le _, Nat.zero_le _⟩ hw 0 3 rfl rfl rfl rfl (Nat.le_of_ble_eq_true rfl) dX5_kind_24 (fun H locs hw => ?_)
    have hw : zHw x A s.heap (zHW x b t S l0 T l1 K l2 ik (upd fd 0 (fd 0 + 1)) tb tq bo so nn) H locs := hw
    exact zFG.iret hx hb hr hlocks hQ hw rfl dX5_kind_27 (zPH.mk (r := zm_kind S fd h n) (v := (-1000000001)) (S' := S) (fd' := zFd fd 0) (by unfold zm_kind; first | (rw [if_neg (fun h => c18 h.2)]; rfl) | (rw [if_neg (fun h => c8 h.1)]; rfl)))
  · have c8 := zb_n0.mp c8
    refine lv_iload_n hx hb dX5_kind_11 rfl (lv_at hl 2 rfl) ?_
    refine lv_iconst (v := 1) hx hb dX5_kind_12 (by decide) ?_
    refine lv_bipush (v := 52) hx hb dX5_kind_13 (by decide) ?_
    refine zcSwi (r := zb (1 ≤ n ∧ n ≤ 52)) hx hb hml hown hts hl.1 hK hE hA lkX5_44 (c_X5_within x (zHW x b t S l0 T l1 K l2 ik fd tb tq bo so nn) n 1 52) ⟨Nat.le_of_ble_eq_true rfl, Nat.le_of_ble_eq_true rfl⟩ ⟨Nat.zero_le _, Nat.zero_le _⟩ hw rfl rfl (Nat.le_of_ble_eq_true rfl) dX5_kind_15 (fun H locs hw => ?_)
    have hw : zHw x A s.heap (zHW x b t S l0 T l1 K l2 ik fd tb tq bo so nn) H locs := hw
    refine lv_if_ne (tgt := 28) hx hb dX5_kind_18 (by decide) (fun c18 => ?_) (fun c18 => ?_)
    · have c18 := zb_n0.mp c18
      obtain ⟨i, hi8, hiN, rfl⟩ := zH_nat hI c8
      obtain ⟨j, hj, rfl⟩ := zBw_nat (hi := 52) c18 (by decide) (by decide)
      refine lv_iconst (v := 0) hx hb dX5_kind_28 (by decide) ?_
      refine lv_istore_n (lv' := [(3, .int 0), (0, .ref (b 0)), (1, .int (nI i)), (2, .int (nI j))]) hx hb dX5_kind_29 rfl hl (by decide) rfl (fun ls hl => ?_)
      refine lv_bipush (v := 100) hx hb dX5_kind_30 (by decide) ?_
      refine lv_istore (lv' := [(4, .int 100), (3, .int 0), (0, .ref (b 0)), (1, .int (nI i)), (2, .int (nI j))]) hx hb dX5_kind_32 hl (by decide) rfl (fun ls hl => ?_)
      refine lv_iconst (v := 0) hx hb dX5_kind_34 (by decide) ?_
      refine lv_istore (lv' := [(5, .int 0), (4, .int 100), (3, .int 0), (0, .ref (b 0)), (1, .int (nI i)), (2, .int (nI j))]) hx hb dX5_kind_35 hl (by decide) rfl (fun ls hl => ?_)
      have loop37 : ∀ (dd : Nat) (k : Nat) (U : zT) (lj : Int32), 6 - k < dd → (hk : k ≤ 6) → ∀ (H : Heap) (locs : List Loc) (ls : Array Slot), zHw x A s.heap (zHW x b t S l0 U lj K l2 ik fd tb tq bo so nn) H locs → lv_has ls 7 [(0, .ref (b 0)), (1, .int (nI i)), (2, .int (nI j)), (3, .int (nI (zMi (zkF S i j) 100 k).1)), (4, .int ((zMi (zkF S i j) 100 k).2)), (5, .int (nI k))] → W p x.1 e (zRM 6) s m ar below meth c H locs 0 0 Q (F0 m 37 ls []) := by
        intro dd
        induction dd with
        | zero => intro k U lj hm; exact absurd hm (Nat.not_lt_zero _)
        | succ dd ih37 =>
          intro k U lj hm hk H locs ls hw hl
          refine lv_iload hx hb dX5_kind_37 (lv_at hl 5 rfl) ?_
          refine lv_bipush (v := 6) hx hb dX5_kind_39 (by decide) ?_
          refine lv_icmp_ge (tgt := 96) hx hb dX5_kind_41 (by decide) (fun c41 => ?_) (fun c41 => ?_)
          · have hke : k = 6 := zke (v := 6) rfl (by omega) hk c41
            refine lv_iload_n hx hb dX5_kind_96 rfl (lv_at hl 3 rfl) ?_
            exact zFG.iret hx hb hr hlocks hQ hw rfl dX5_kind_97 (zPH.mk (r := zm_kind S fd (nI i) (nI j)) (v := nI (zMi (zkF S i j) 100 k).1) (S' := S) (fd' := fd) (by unfold zm_kind; rw [if_pos ⟨c8, c18⟩, zc_nI (show j < 2147483648 by omega), zc_nI (show i < 2147483648 by omega), hke]))
          · have hkn : k < 6 := zkn (v := 6) rfl (by omega) hk c41
            refine lv_aload_n hx hb dX5_kind_44 rfl (lv_at hl 0 rfl) ?_
            refine zcVwa hx hb hml hown hts hl.1 hK hE hA lkX5_171 (c_X5_asItIs x b t S l0 U lj K l2 ik fd tb tq bo so nn) ⟨Nat.le_of_ble_eq_true rfl, Nat.le_of_ble_eq_true rfl⟩ ⟨Nat.zero_le _, Nat.zero_le _⟩ hw 0 3 rfl rfl rfl rfl (Nat.le_of_ble_eq_true rfl) dX5_kind_45 (fun H locs hw => ?_)
            have hw : zHw x A s.heap (zHW x b t S l0 S 1000 K l2 ik fd tb tq bo so nn) H locs := hw
            refine lv_astore (lv' := [(6, .ref ((t 1) 0)), (0, .ref (b 0)), (1, .int (nI i)), (2, .int (nI j)), (3, .int (nI (zMi (zkF S i j) 100 k).1)), (4, .int ((zMi (zkF S i j) 100 k).2)), (5, .int (nI k))]) hx hb dX5_kind_48 hl (by decide) rfl (fun ls hl => ?_)
            refine lv_aload hx hb dX5_kind_50 (lv_at hl 0 rfl) ?_
            refine gfX5_104 hx hb hown hts hK hw 12 rfl rfl dX5_kind_52 ?_
            refine lv_iload_n hx hb dX5_kind_55 rfl (lv_at hl 2 rfl) ?_
            refine lv_iload hx hb dX5_kind_56 (lv_at hl 6 rfl) ?_
            refine zias hx hb hK hw 15 0 i rfl rfl rfl (by omega) (by decide) dX5_kind_58 (fun H locs hw => ?_)
            have hw : zHw x A s.heap (zHW x b t S l0 (zU S 3 i (nI k)) 1000 K l2 ik fd tb tq bo so nn) H locs := hw
            refine lv_aload hx hb dX5_kind_59 (lv_at hl 0 rfl) ?_
            refine lv_iload_n hx hb dX5_kind_61 rfl (lv_at hl 3 rfl) ?_
            refine zcVma (C1 := (zOW x b t ik fd ++ zTW x (t 0) S l0)) (C2 := (zTW x (t 2) K l2 ++ (zPW x b tb tq ++ (zSH x (b 5) (b 9) (bo 0) (so 0) (nn 0) ++ (zSH x (b 6) (b 10) (bo 1) (so 1) (nn 1) ++ (zSH x (b 7) (b 11) (bo 2) (so 2) (nn 2) ++ zSH x (b 8) (b 12) (bo 3) (so 3) (nn 3))))))) hx hb hml hown hts hl.1 hK hE hA lkX5_146 (c_X3_goWeeks x (t 1) (zU S 3 i (nI k)) 1000 j (hI.u (Or.inr ⟨k, (show k ≤ 5 by omega), rfl⟩)) (by omega)) ⟨Nat.le_of_ble_eq_true rfl, Nat.le_of_ble_eq_true rfl⟩ ⟨Nat.zero_le _, Nat.zero_le _⟩ hw 0 2 rfl rfl rfl rfl (Nat.le_of_ble_eq_true rfl) dX5_kind_62 (fun H locs hw => ?_)
            have hw : zHw x A s.heap (zHW x b t S l0 (zGo j (zU S 3 i (nI k))) (zGl j (zU S 3 i (nI k)) 1000) K l2 ik fd tb tq bo so nn) H locs := hw
            refine lv_pop hx hb dX5_kind_65 rfl ?_
            refine lv_aload hx hb dX5_kind_66 (lv_at hl 0 rfl) ?_
            refine gfX5_124 hx hb hown hts hK hw 12 rfl rfl dX5_kind_68 ?_
            refine lv_iload_n hx hb dX5_kind_71 rfl (lv_at hl 2 rfl) ?_
            refine zial hx hb hK hw 17 0 i rfl rfl rfl (by omega) (by decide) dX5_kind_72 ?_
            refine W.eq (g2 := F0 m 73 ls [.int (zkF S i j k)]) (by rfl) ?_
            refine lv_iload hx hb dX5_kind_73 (lv_at hl 5 rfl) ?_
            refine lv_icmp_ge (tgt := 90) hx hb dX5_kind_75 (by decide) (fun c75 => ?_) (fun c75 => ?_)
            · have hmi := (zMi_neg (Int32.not_lt.mpr c75) : zMi (zkF S i j) 100 (k + 1) = _)
              have hl : lv_has ls 7 [(6, .ref ((t 1) 0)), (0, .ref (b 0)), (1, .int (nI i)), (2, .int (nI j)), (3, .int (nI (zMi (zkF S i j) 100 (k + 1)).1)), (4, .int ((zMi (zkF S i j) 100 k).2)), (5, .int (nI k))] := by
                rw [show nI (zMi (zkF S i j) 100 (k + 1)).1 = nI (zMi (zkF S i j) 100 k).1 from (by rw [hmi])]; exact hl
              have hl : lv_has ls 7 [(6, .ref ((t 1) 0)), (0, .ref (b 0)), (1, .int (nI i)), (2, .int (nI j)), (3, .int (nI (zMi (zkF S i j) 100 (k + 1)).1)), (4, .int ((zMi (zkF S i j) 100 (k + 1)).2)), (5, .int (nI k))] := by
                rw [show (zMi (zkF S i j) 100 (k + 1)).2 = (zMi (zkF S i j) 100 k).2 from (by rw [hmi])]; exact hl
              refine lv_iinc (v := nI (k + 1)) (lv' := [(5, .int (nI (k + 1))), (6, .ref ((t 1) 0)), (0, .ref (b 0)), (1, .int (nI i)), (2, .int (nI j)), (3, .int (nI (zMi (zkF S i j) 100 (k + 1)).1)), (4, .int ((zMi (zkF S i j) 100 (k + 1)).2))]) hx hb dX5_kind_90 hl (k := 6) rfl (nI_1 k) (by decide) rfl (fun ls hl => ?_)
              refine lv_goto (tgt := 37) hx hb dX5_kind_93 (by decide) ?_
              exact ih37 (k + 1) (zGo j (zU S 3 i (nI k))) (zGl j (zU S 3 i (nI k)) 1000) (by omega) (by omega) _ _ _ hw (lv_sub hl [2, 3, 4, 5, 6, 0] rfl)
            · refine lv_iload hx hb dX5_kind_78 (lv_at hl 6 rfl) ?_
              refine lv_istore_n (lv' := [(3, .int (nI k)), (6, .ref ((t 1) 0)), (0, .ref (b 0)), (1, .int (nI i)), (2, .int (nI j)), (4, .int ((zMi (zkF S i j) 100 k).2)), (5, .int (nI k))]) hx hb dX5_kind_80 rfl hl (by decide) rfl (fun ls hl => ?_)
              refine lv_aload hx hb dX5_kind_81 (lv_at hl 1 rfl) ?_
              refine gfX5_124 hx hb hown hts hK hw 12 rfl rfl dX5_kind_83 ?_
              refine lv_iload_n hx hb dX5_kind_86 rfl (lv_at hl 3 rfl) ?_
              refine zial hx hb hK hw 17 0 i rfl rfl rfl (by omega) (by decide) dX5_kind_87 ?_
              refine W.eq (g2 := F0 m 88 ls [.int (zkF S i j k)]) (by rfl) ?_
              refine lv_istore (lv' := [(4, .int (zkF S i j k)), (3, .int (nI k)), (6, .ref ((t 1) 0)), (0, .ref (b 0)), (1, .int (nI i)), (2, .int (nI j)), (5, .int (nI k))]) hx hb dX5_kind_88 hl (by decide) rfl (fun ls hl => ?_)
              have hmi := (zMi_pos (Int32.not_le.mp c75) : zMi (zkF S i j) 100 (k + 1) = _)
              have hl : lv_has ls 7 [(4, .int (zkF S i j k)), (3, .int (nI (zMi (zkF S i j) 100 (k + 1)).1)), (6, .ref ((t 1) 0)), (0, .ref (b 0)), (1, .int (nI i)), (2, .int (nI j)), (5, .int (nI k))] := by
                rw [show nI (zMi (zkF S i j) 100 (k + 1)).1 = nI k from (by rw [hmi])]; exact hl
              have hl : lv_has ls 7 [(4, .int ((zMi (zkF S i j) 100 (k + 1)).2)), (3, .int (nI (zMi (zkF S i j) 100 (k + 1)).1)), (6, .ref ((t 1) 0)), (0, .ref (b 0)), (1, .int (nI i)), (2, .int (nI j)), (5, .int (nI k))] := by
                rw [show (zMi (zkF S i j) 100 (k + 1)).2 = zkF S i j k from (by rw [hmi])]; exact hl
              refine lv_iinc (v := nI (k + 1)) (lv' := [(5, .int (nI (k + 1))), (4, .int ((zMi (zkF S i j) 100 (k + 1)).2)), (3, .int (nI (zMi (zkF S i j) 100 (k + 1)).1)), (6, .ref ((t 1) 0)), (0, .ref (b 0)), (1, .int (nI i)), (2, .int (nI j))]) hx hb dX5_kind_90 hl (k := 6) rfl (nI_1 k) (by decide) rfl (fun ls hl => ?_)
              refine lv_goto (tgt := 37) hx hb dX5_kind_93 (by decide) ?_
              exact ih37 (k + 1) (zGo j (zU S 3 i (nI k))) (zGl j (zU S 3 i (nI k)) 1000) (by omega) (by omega) _ _ _ hw (lv_sub hl [4, 5, 6, 2, 1, 0] rfl)
      exact loop37 (_ + 1) 0 T l1 (Nat.lt_succ_self _) (Nat.zero_le _) _ _ _ hw (lv_sub hl [3, 4, 5, 2, 1, 0] rfl)
    · have c18 := zb_0.mp c18
      refine lv_aload_n hx hb dX5_kind_21 rfl (lv_at hl 0 rfl) ?_
      refine lv_ldc (v := (-1000000001)) hx hb hown (hts _ ckX5_51) dX5_kind_22 ?_
      refine zcVwi (r := (-1000000001)) hx hb hml hown hts hl.1 hK hE hA lkX5_52 (c_X5_found x b t S l0 T l1 K l2 ik fd tb tq bo so nn (-1000000001) 0 (by decide) (by decide)) ⟨Nat.le_of_ble_eq_true rfl, Nat.le_of_ble_eq_true rfl⟩ ⟨Nat.zero_le _, Nat.zero_le _⟩ hw 0 3 rfl rfl rfl rfl (Nat.le_of_ble_eq_true rfl) dX5_kind_24 (fun H locs hw => ?_)
      have hw : zHw x A s.heap (zHW x b t S l0 T l1 K l2 ik (upd fd 0 (fd 0 + 1)) tb tq bo so nn) H locs := hw
      exact zFG.iret hx hb hr hlocks hQ hw rfl dX5_kind_27 (zPH.mk (r := zm_kind S fd h n) (v := (-1000000001)) (S' := S) (fd' := zFd fd 0) (by unfold zm_kind; first | (rw [if_neg (fun h => c18 h.2)]; rfl) | (rw [if_neg (fun h => c8 h.1)]; rfl)))

set_option maxHeartbeats 4000000 in
set_option maxRecDepth 100000 in
theorem c_X5_let (x : zX) (b : Nat → Nat) (t : Nat → Nat → Nat) (S : zT) (l0 : Int32) (T : zT) (l1 : Int32) (K : zT) (l2 ik : Int32) (fd tb tq bo so : Nat → Int32) (nn : Nat → Nat → Int64) (n : Int32) (hI : zInv S) : zFG x mX5_let 6 [.ref (b 0), .int n] (zHW x b t S l0 T l1 K l2 ik fd tb tq bo so nn) (zPH x b t K l2 ik tb tq bo so nn (zm_let S fd n)) := by
  refine zFG.start RX5 cX5_let 7 (some .int) rfl rfl (by decide +kernel) (Nat.le_of_ble_eq_true rfl) ?_
  intro p e s m ar below meth c ls A Q hx hb hr hml hown hts hlocks hK hE hA hQ hl hw
  have hl : lv_has ls 7 [(0, .ref (b 0)), (1, .int n)] := hl
  have hw : zHw x A s.heap (zHW x b t S l0 T l1 K l2 ik fd tb tq bo so nn) s.heap [] := hw
  refine lv_iload_n hx hb dX5_let_0 rfl (lv_at hl 1 rfl) ?_
  refine lv_iconst (v := 1) hx hb dX5_let_1 (by decide) ?_
  refine lv_bipush (v := 26) hx hb dX5_let_2 (by decide) ?_
  refine zcSwi (r := zb (1 ≤ n ∧ n ≤ 26)) hx hb hml hown hts hl.1 hK hE hA lkX5_44 (c_X5_within x (zHW x b t S l0 T l1 K l2 ik fd tb tq bo so nn) n 1 26) ⟨Nat.le_of_ble_eq_true rfl, Nat.le_of_ble_eq_true rfl⟩ ⟨Nat.zero_le _, Nat.zero_le _⟩ hw rfl rfl (Nat.le_of_ble_eq_true rfl) dX5_let_4 (fun H locs hw => ?_)
  have hw : zHw x A s.heap (zHW x b t S l0 T l1 K l2 ik fd tb tq bo so nn) H locs := hw
  refine lv_if_ne (tgt := 17) hx hb dX5_let_7 (by decide) (fun c7 => ?_) (fun c7 => ?_)
  · have c7 := zb_n0.mp c7
    obtain ⟨j, hj, rfl⟩ := zBw_nat (hi := 26) c7 (by decide) (by decide)
    refine lv_iconst (v := 0) hx hb dX5_let_17 (by decide) ?_
    refine lv_istore_n (lv' := [(2, .int 0), (0, .ref (b 0)), (1, .int (nI j))]) hx hb dX5_let_18 rfl hl (by decide) rfl (fun ls hl => ?_)
    refine lv_sipush (v := 793) hx hb dX5_let_19 (by decide) ?_
    refine lv_istore_n (lv' := [(3, .int 793), (2, .int 0), (0, .ref (b 0)), (1, .int (nI j))]) hx hb dX5_let_22 rfl hl (by decide) rfl (fun ls hl => ?_)
    refine lv_iconst (v := 0) hx hb dX5_let_23 (by decide) ?_
    refine lv_istore (lv' := [(4, .int 0), (3, .int 793), (2, .int 0), (0, .ref (b 0)), (1, .int (nI j))]) hx hb dX5_let_24 hl (by decide) rfl (fun ls hl => ?_)
    have loop26 : ∀ (dd : Nat) (k : Nat) (U : zT) (lj : Int32), 64 - k < dd → (hk : k ≤ 64) → ∀ (H : Heap) (locs : List Loc) (ls : Array Slot), zHw x A s.heap (zHW x b t S l0 U lj K l2 ik fd tb tq bo so nn) H locs → lv_has ls 7 [(0, .ref (b 0)), (1, .int (nI j)), (2, .int (nI (zMi (zlF S j) 793 k).1)), (3, .int ((zMi (zlF S j) 793 k).2)), (4, .int (nI k))] → W p x.1 e (zRM 6) s m ar below meth c H locs 0 0 Q (F0 m 26 ls []) := by
      intro dd
      induction dd with
      | zero => intro k U lj hm; exact absurd hm (Nat.not_lt_zero _)
      | succ dd ih26 =>
        intro k U lj hm hk H locs ls hw hl
        refine lv_iload hx hb dX5_let_26 (lv_at hl 4 rfl) ?_
        refine lv_bipush (v := 64) hx hb dX5_let_28 (by decide) ?_
        refine lv_icmp_ge (tgt := 75) hx hb dX5_let_30 (by decide) (fun c30 => ?_) (fun c30 => ?_)
        · have hke : k = 64 := zke (v := 64) rfl (by omega) hk c30
          refine lv_iload_n hx hb dX5_let_75 rfl (lv_at hl 2 rfl) ?_
          exact zFG.iret hx hb hr hlocks hQ hw rfl dX5_let_76 (zPH.mk (r := zm_let S fd (nI j)) (v := nI (zMi (zlF S j) 793 k).1) (S' := S) (fd' := fd) (by unfold zm_let; rw [if_pos c7, zc_nI (show j < 2147483648 by omega), hke]))
        · have hkn : k < 64 := zkn (v := 64) rfl (by omega) hk c30
          refine lv_aload_n hx hb dX5_let_33 rfl (lv_at hl 0 rfl) ?_
          refine zcVwa hx hb hml hown hts hl.1 hK hE hA lkX5_171 (c_X5_asItIs x b t S l0 U lj K l2 ik fd tb tq bo so nn) ⟨Nat.le_of_ble_eq_true rfl, Nat.le_of_ble_eq_true rfl⟩ ⟨Nat.zero_le _, Nat.zero_le _⟩ hw 0 3 rfl rfl rfl rfl (Nat.le_of_ble_eq_true rfl) dX5_let_34 (fun H locs hw => ?_)
          have hw : zHw x A s.heap (zHW x b t S l0 S 1000 K l2 ik fd tb tq bo so nn) H locs := hw
          refine lv_astore (lv' := [(5, .ref ((t 1) 0)), (0, .ref (b 0)), (1, .int (nI j)), (2, .int (nI (zMi (zlF S j) 793 k).1)), (3, .int ((zMi (zlF S j) 793 k).2)), (4, .int (nI k))]) hx hb dX5_let_37 hl (by decide) rfl (fun ls hl => ?_)
          refine lv_aload hx hb dX5_let_39 (lv_at hl 0 rfl) ?_
          refine lv_iload hx hb dX5_let_41 (lv_at hl 5 rfl) ?_
          refine zcVmv (C1 := (zOW x b t ik fd ++ zTW x (t 0) S l0)) (C2 := (zTW x (t 2) K l2 ++ (zPW x b tb tq ++ (zSH x (b 5) (b 9) (bo 0) (so 0) (nn 0) ++ (zSH x (b 6) (b 10) (bo 1) (so 1) (nn 1) ++ (zSH x (b 7) (b 11) (bo 2) (so 2) (nn 2) ++ zSH x (b 8) (b 12) (bo 3) (so 3) (nn 3))))))) hx hb hml hown hts hl.1 hK hE hA lkX5_193 (c_X3_letGoAll x (t 1) S 1000 (nI k)) ⟨Nat.le_of_ble_eq_true rfl, Nat.le_of_ble_eq_true rfl⟩ ⟨Nat.zero_le _, Nat.zero_le _⟩ hw 0 2 rfl rfl rfl rfl (Nat.le_of_ble_eq_true rfl) dX5_let_43 (fun H locs hw => ?_)
          have hw : zHw x A s.heap (zHW x b t S l0 (zLa S (nI k) 6) 1000 K l2 ik fd tb tq bo so nn) H locs := hw
          refine lv_aload hx hb dX5_let_46 (lv_at hl 0 rfl) ?_
          refine lv_iload_n hx hb dX5_let_48 rfl (lv_at hl 2 rfl) ?_
          refine zcVma (C1 := (zOW x b t ik fd ++ zTW x (t 0) S l0)) (C2 := (zTW x (t 2) K l2 ++ (zPW x b tb tq ++ (zSH x (b 5) (b 9) (bo 0) (so 0) (nn 0) ++ (zSH x (b 6) (b 10) (bo 1) (so 1) (nn 1) ++ (zSH x (b 7) (b 11) (bo 2) (so 2) (nn 2) ++ zSH x (b 8) (b 12) (bo 3) (so 3) (nn 3))))))) hx hb hml hown hts hl.1 hK hE hA lkX5_146 (c_X3_goWeeks x (t 1) (zLa S (nI k) 6) 1000 j (zLa_inv hI (nI k) 6 (Nat.le_refl 6)) (by omega)) ⟨Nat.le_of_ble_eq_true rfl, Nat.le_of_ble_eq_true rfl⟩ ⟨Nat.zero_le _, Nat.zero_le _⟩ hw 0 2 rfl rfl rfl rfl (Nat.le_of_ble_eq_true rfl) dX5_let_49 (fun H locs hw => ?_)
          have hw : zHw x A s.heap (zHW x b t S l0 (zGo j (zLa S (nI k) 6)) (zGl j (zLa S (nI k) 6) 1000) K l2 ik fd tb tq bo so nn) H locs := hw
          refine zcVmi (r := zSu (zopn (zGo j (zLa S (nI k) 6))) ((zGo j (zLa S (nI k) 6)) 5) (zN (zGo j (zLa S (nI k) 6)))) (C1 := (zOW x b t ik fd ++ zTW x (t 0) S l0)) (C2 := (zTW x (t 2) K l2 ++ (zPW x b tb tq ++ (zSH x (b 5) (b 9) (bo 0) (so 0) (nn 0) ++ (zSH x (b 6) (b 10) (bo 1) (so 1) (nn 1) ++ (zSH x (b 7) (b 11) (bo 2) (so 2) (nn 2) ++ zSH x (b 8) (b 12) (bo 3) (so 3) (nn 3))))))) hx hb hml hown hts hl.1 hK hE hA lkX5_168 (c_X3_openSize x (t 1) (zGo j (zLa S (nI k) 6)) (zGl j (zLa S (nI k) 6) 1000) ((zGo_ok j (zLa_inv hI (nI k) 6 (Nat.le_refl 6))).1)) ⟨Nat.le_of_ble_eq_true rfl, Nat.le_of_ble_eq_true rfl⟩ ⟨Nat.zero_le _, Nat.zero_le _⟩ hw 0 2 rfl rfl rfl rfl (Nat.le_of_ble_eq_true rfl) dX5_let_52 (fun H locs hw => ?_)
          have hw : zHw x A s.heap (zHW x b t S l0 (zGo j (zLa S (nI k) 6)) (zGl j (zLa S (nI k) 6) 1000) K l2 ik fd tb tq bo so nn) H locs := hw
          refine W.eq (g2 := F0 m 55 ls [.int (zlF S j k)]) (by rfl) ?_
          refine lv_istore (lv' := [(6, .int (zlF S j k)), (5, .ref ((t 1) 0)), (0, .ref (b 0)), (1, .int (nI j)), (2, .int (nI (zMi (zlF S j) 793 k).1)), (3, .int ((zMi (zlF S j) 793 k).2)), (4, .int (nI k))]) hx hb dX5_let_55 hl (by decide) rfl (fun ls hl => ?_)
          refine lv_iload hx hb dX5_let_57 (lv_at hl 0 rfl) ?_
          refine lv_iload_n hx hb dX5_let_59 rfl (lv_at hl 5 rfl) ?_
          refine lv_icmp_ge (tgt := 69) hx hb dX5_let_60 (by decide) (fun c60 => ?_) (fun c60 => ?_)
          · have hmi := (zMi_neg (Int32.not_lt.mpr c60) : zMi (zlF S j) 793 (k + 1) = _)
            have hl : lv_has ls 7 [(6, .int (zlF S j k)), (5, .ref ((t 1) 0)), (0, .ref (b 0)), (1, .int (nI j)), (2, .int (nI (zMi (zlF S j) 793 (k + 1)).1)), (3, .int ((zMi (zlF S j) 793 k).2)), (4, .int (nI k))] := by
              rw [show nI (zMi (zlF S j) 793 (k + 1)).1 = nI (zMi (zlF S j) 793 k).1 from (by rw [hmi])]; exact hl
            have hl : lv_has ls 7 [(6, .int (zlF S j k)), (5, .ref ((t 1) 0)), (0, .ref (b 0)), (1, .int (nI j)), (2, .int (nI (zMi (zlF S j) 793 (k + 1)).1)), (3, .int ((zMi (zlF S j) 793 (k + 1)).2)), (4, .int (nI k))] := by
              rw [show (zMi (zlF S j) 793 (k + 1)).2 = (zMi (zlF S j) 793 k).2 from (by rw [hmi])]; exact hl
            refine lv_iinc (v := nI (k + 1)) (lv' := [(4, .int (nI (k + 1))), (6, .int (zlF S j k)), (5, .ref ((t 1) 0)), (0, .ref (b 0)), (1, .int (nI j)), (2, .int (nI (zMi (zlF S j) 793 (k + 1)).1)), (3, .int ((zMi (zlF S j) 793 (k + 1)).2))]) hx hb dX5_let_69 hl (k := 6) rfl (nI_1 k) (by decide) rfl (fun ls hl => ?_)
            refine lv_goto (tgt := 26) hx hb dX5_let_72 (by decide) ?_
            exact ih26 (k + 1) (zGo j (zLa S (nI k) 6)) (zGl j (zLa S (nI k) 6) 1000) (by omega) (by omega) _ _ _ hw (lv_sub hl [3, 4, 5, 6, 0] rfl)
          · refine lv_iload hx hb dX5_let_63 (lv_at hl 6 rfl) ?_
            refine lv_istore_n (lv' := [(2, .int (nI k)), (6, .int (zlF S j k)), (5, .ref ((t 1) 0)), (0, .ref (b 0)), (1, .int (nI j)), (3, .int ((zMi (zlF S j) 793 k).2)), (4, .int (nI k))]) hx hb dX5_let_65 rfl hl (by decide) rfl (fun ls hl => ?_)
            refine lv_iload hx hb dX5_let_66 (lv_at hl 1 rfl) ?_
            refine lv_istore_n (lv' := [(3, .int (zlF S j k)), (2, .int (nI k)), (6, .int (zlF S j k)), (5, .ref ((t 1) 0)), (0, .ref (b 0)), (1, .int (nI j)), (4, .int (nI k))]) hx hb dX5_let_68 rfl hl (by decide) rfl (fun ls hl => ?_)
            have hmi := (zMi_pos (Int32.not_le.mp c60) : zMi (zlF S j) 793 (k + 1) = _)
            have hl : lv_has ls 7 [(3, .int (zlF S j k)), (2, .int (nI (zMi (zlF S j) 793 (k + 1)).1)), (6, .int (zlF S j k)), (5, .ref ((t 1) 0)), (0, .ref (b 0)), (1, .int (nI j)), (4, .int (nI k))] := by
              rw [show nI (zMi (zlF S j) 793 (k + 1)).1 = nI k from (by rw [hmi])]; exact hl
            have hl : lv_has ls 7 [(3, .int ((zMi (zlF S j) 793 (k + 1)).2)), (2, .int (nI (zMi (zlF S j) 793 (k + 1)).1)), (6, .int (zlF S j k)), (5, .ref ((t 1) 0)), (0, .ref (b 0)), (1, .int (nI j)), (4, .int (nI k))] := by
              rw [show (zMi (zlF S j) 793 (k + 1)).2 = zlF S j k from (by rw [hmi])]; exact hl
            refine lv_iinc (v := nI (k + 1)) (lv' := [(4, .int (nI (k + 1))), (3, .int ((zMi (zlF S j) 793 (k + 1)).2)), (2, .int (nI (zMi (zlF S j) 793 (k + 1)).1)), (6, .int (zlF S j k)), (5, .ref ((t 1) 0)), (0, .ref (b 0)), (1, .int (nI j))]) hx hb dX5_let_69 hl (k := 6) rfl (nI_1 k) (by decide) rfl (fun ls hl => ?_)
            refine lv_goto (tgt := 26) hx hb dX5_let_72 (by decide) ?_
            exact ih26 (k + 1) (zGo j (zLa S (nI k) 6)) (zGl j (zLa S (nI k) 6) 1000) (by omega) (by omega) _ _ _ hw (lv_sub hl [5, 6, 2, 1, 0] rfl)
    exact loop26 (_ + 1) 0 T l1 (Nat.lt_succ_self _) (Nat.zero_le _) _ _ _ hw (lv_sub hl [3, 4, 2, 1, 0] rfl)
  · have c7 := zb_0.mp c7
    refine lv_aload_n hx hb dX5_let_10 rfl (lv_at hl 0 rfl) ?_
    refine lv_ldc (v := (-1000000001)) hx hb hown (hts _ ckX5_51) dX5_let_11 ?_
    refine zcVwi (r := (-1000000001)) hx hb hml hown hts hl.1 hK hE hA lkX5_52 (c_X5_found x b t S l0 T l1 K l2 ik fd tb tq bo so nn (-1000000001) 0 (by decide) (by decide)) ⟨Nat.le_of_ble_eq_true rfl, Nat.le_of_ble_eq_true rfl⟩ ⟨Nat.zero_le _, Nat.zero_le _⟩ hw 0 3 rfl rfl rfl rfl (Nat.le_of_ble_eq_true rfl) dX5_let_13 (fun H locs hw => ?_)
    have hw : zHw x A s.heap (zHW x b t S l0 T l1 K l2 ik (upd fd 0 (fd 0 + 1)) tb tq bo so nn) H locs := hw
    exact zFG.iret hx hb hr hlocks hQ hw rfl dX5_let_16 (zPH.mk (r := zm_let S fd n) (v := (-1000000001)) (S' := S) (fd' := zFd fd 0) (by unfold zm_let; rw [if_neg c7]; rfl))

set_option maxHeartbeats 4000000 in
set_option maxRecDepth 100000 in
theorem c_X5_worst (x : zX) (b : Nat → Nat) (t : Nat → Nat → Nat) (S : zT) (l0 : Int32) (T : zT) (l1 : Int32) (K : zT) (l2 ik : Int32) (fd tb tq bo so : Nat → Int32) (nn : Nat → Nat → Int64) (n : Int32) (hI : zInv S) : zFG x mX5_worst 6 [.ref (b 0), .int n] (zHW x b t S l0 T l1 K l2 ik fd tb tq bo so nn) (zPH x b t K l2 ik tb tq bo so nn (zm_worst S fd n)) := by
  refine zFG.start RX5 cX5_worst 5 (some .int) rfl rfl (by decide +kernel) (Nat.le_of_ble_eq_true rfl) ?_
  intro p e s m ar below meth c ls A Q hx hb hr hml hown hts hlocks hK hE hA hQ hl hw
  have hl : lv_has ls 5 [(0, .ref (b 0)), (1, .int n)] := hl
  have hw : zHw x A s.heap (zHW x b t S l0 T l1 K l2 ik fd tb tq bo so nn) s.heap [] := hw
  refine lv_iload_n hx hb dX5_worst_0 rfl (lv_at hl 1 rfl) ?_
  refine lv_iconst (v := 0) hx hb dX5_worst_1 (by decide) ?_
  refine lv_bipush (v := 104) hx hb dX5_worst_2 (by decide) ?_
  refine zcSwi (r := zb (0 ≤ n ∧ n ≤ 104)) hx hb hml hown hts hl.1 hK hE hA lkX5_44 (c_X5_within x (zHW x b t S l0 T l1 K l2 ik fd tb tq bo so nn) n 0 104) ⟨Nat.le_of_ble_eq_true rfl, Nat.le_of_ble_eq_true rfl⟩ ⟨Nat.zero_le _, Nat.zero_le _⟩ hw rfl rfl (Nat.le_of_ble_eq_true rfl) dX5_worst_4 (fun H locs hw => ?_)
  have hw : zHw x A s.heap (zHW x b t S l0 T l1 K l2 ik fd tb tq bo so nn) H locs := hw
  refine lv_if_ne (tgt := 17) hx hb dX5_worst_7 (by decide) (fun c7 => ?_) (fun c7 => ?_)
  · have c7 := zb_n0.mp c7
    obtain ⟨j, hj, rfl⟩ := zBw_nat (hi := 104) c7 (by decide) (by decide)
    refine lv_aload_n hx hb dX5_worst_17 rfl (lv_at hl 0 rfl) ?_
    refine zcVwa hx hb hml hown hts hl.1 hK hE hA lkX5_171 (c_X5_asItIs x b t S l0 T l1 K l2 ik fd tb tq bo so nn) ⟨Nat.le_of_ble_eq_true rfl, Nat.le_of_ble_eq_true rfl⟩ ⟨Nat.zero_le _, Nat.zero_le _⟩ hw 0 3 rfl rfl rfl rfl (Nat.le_of_ble_eq_true rfl) dX5_worst_18 (fun H locs hw => ?_)
    have hw : zHw x A s.heap (zHW x b t S l0 S 1000 K l2 ik fd tb tq bo so nn) H locs := hw
    refine lv_iload_n hx hb dX5_worst_21 rfl (lv_at hl 1 rfl) ?_
    refine zcVma (C1 := (zOW x b t ik fd ++ zTW x (t 0) S l0)) (C2 := (zTW x (t 2) K l2 ++ (zPW x b tb tq ++ (zSH x (b 5) (b 9) (bo 0) (so 0) (nn 0) ++ (zSH x (b 6) (b 10) (bo 1) (so 1) (nn 1) ++ (zSH x (b 7) (b 11) (bo 2) (so 2) (nn 2) ++ zSH x (b 8) (b 12) (bo 3) (so 3) (nn 3))))))) hx hb hml hown hts hl.1 hK hE hA lkX5_146 (c_X3_goWeeks x (t 1) S 1000 j hI (by omega)) ⟨Nat.le_of_ble_eq_true rfl, Nat.le_of_ble_eq_true rfl⟩ ⟨Nat.zero_le _, Nat.zero_le _⟩ hw 0 2 rfl rfl rfl rfl (Nat.le_of_ble_eq_true rfl) dX5_worst_22 (fun H locs hw => ?_)
    have hw : zHw x A s.heap (zHW x b t S l0 (zGo j S) (zGl j S 1000) K l2 ik fd tb tq bo so nn) H locs := hw
    refine lv_astore_n (lv' := [(2, .ref ((t 1) 0)), (0, .ref (b 0)), (1, .int (nI j))]) hx hb dX5_worst_25 rfl hl (by decide) rfl (fun ls hl => ?_)
    refine lv_iconst (v := 0) hx hb dX5_worst_26 (by decide) ?_
    refine lv_istore_n (lv' := [(3, .int 0), (2, .ref ((t 1) 0)), (0, .ref (b 0)), (1, .int (nI j))]) hx hb dX5_worst_27 rfl hl (by decide) rfl (fun ls hl => ?_)
    refine lv_iconst (v := 1) hx hb dX5_worst_28 (by decide) ?_
    refine lv_istore (lv' := [(4, .int 1), (3, .int 0), (2, .ref ((t 1) 0)), (0, .ref (b 0)), (1, .int (nI j))]) hx hb dX5_worst_29 hl (by decide) rfl (fun ls hl => ?_)
    have loop31 : ∀ (dd : Nat) (k : Nat), 5 - k < dd → (hk : k ≤ 5) → ∀ (H : Heap) (locs : List Loc) (ls : Array Slot), zHw x A s.heap (zHW x b t S l0 (zGo j S) (zGl j S 1000) K l2 ik fd tb tq bo so nn) H locs → lv_has ls 5 [(0, .ref (b 0)), (2, .ref ((t 1) 0)), (3, .int (nI (zWt (zGo j S) k))), (4, .int (nI (k + 1)))] → W p x.1 e (zRM 6) s m ar below meth c H locs 0 0 Q (F0 m 31 ls []) := by
      intro dd
      induction dd with
      | zero => intro k hm; exact absurd hm (Nat.not_lt_zero _)
      | succ dd ih31 =>
        intro k hm hk H locs ls hw hl
        refine lv_iload hx hb dX5_worst_31 (lv_at hl 3 rfl) ?_
        refine lv_bipush (v := 6) hx hb dX5_worst_33 (by decide) ?_
        refine lv_icmp_ge (tgt := 61) hx hb dX5_worst_35 (by decide) (fun c35 => ?_) (fun c35 => ?_)
        · have hke : k + 1 = 6 := zke (v := 6) rfl (by omega) (by omega) c35
          have hke5 : k = 5 := by omega
          refine lv_iload_n hx hb dX5_worst_61 rfl (lv_at hl 2 rfl) ?_
          exact zFG.iret hx hb hr hlocks hQ hw rfl dX5_worst_62 (zPH.mk (r := zm_worst S fd (nI j)) (v := nI (zWt (zGo j S) k)) (S' := S) (fd' := fd) (by unfold zm_worst; rw [if_pos c7, zc_nI (show j < 2147483648 by omega), hke5]))
        · have hkn : k + 1 < 6 := zkn (v := 6) rfl (by omega) (by omega) c35
          refine lv_aload_n hx hb dX5_worst_38 rfl (lv_at hl 1 rfl) ?_
          refine lv_iload hx hb dX5_worst_39 (lv_at hl 3 rfl) ?_
          refine zcVmi (r := zSu (fun h => zopn (zGo j S) h && decide ((zGo j S) 4 h = (nI (k + 1)))) ((zGo j S) 5) (zN (zGo j S))) (C1 := (zOW x b t ik fd ++ zTW x (t 0) S l0)) (C2 := (zTW x (t 2) K l2 ++ (zPW x b tb tq ++ (zSH x (b 5) (b 9) (bo 0) (so 0) (nn 0) ++ (zSH x (b 6) (b 10) (bo 1) (so 1) (nn 1) ++ (zSH x (b 7) (b 11) (bo 2) (so 2) (nn 2) ++ zSH x (b 8) (b 12) (bo 3) (so 3) (nn 3))))))) hx hb hml hown hts hl.1 hK hE hA lkX5_197 (c_X3_openSizeOf x (t 1) (zGo j S) (zGl j S 1000) (nI (k + 1)) ((zGo_ok j (hI)).1)) ⟨Nat.le_of_ble_eq_true rfl, Nat.le_of_ble_eq_true rfl⟩ ⟨Nat.zero_le _, Nat.zero_le _⟩ hw 0 2 rfl rfl rfl rfl (Nat.le_of_ble_eq_true rfl) dX5_worst_41 (fun H locs hw => ?_)
          have hw : zHw x A s.heap (zHW x b t S l0 (zGo j S) (zGl j S 1000) K l2 ik fd tb tq bo so nn) H locs := hw
          refine W.eq (g2 := F0 m 44 ls [.int (zoS (zGo j S) (nI (k + 1)))]) (by rfl) ?_
          refine lv_aload_n hx hb dX5_worst_44 rfl (lv_at hl 1 rfl) ?_
          refine lv_iload_n hx hb dX5_worst_45 rfl (lv_at hl 2 rfl) ?_
          refine zcVmi (r := zSu (fun h => zopn (zGo j S) h && decide ((zGo j S) 4 h = (nI (zWt (zGo j S) k)))) ((zGo j S) 5) (zN (zGo j S))) (C1 := (zOW x b t ik fd ++ zTW x (t 0) S l0)) (C2 := (zTW x (t 2) K l2 ++ (zPW x b tb tq ++ (zSH x (b 5) (b 9) (bo 0) (so 0) (nn 0) ++ (zSH x (b 6) (b 10) (bo 1) (so 1) (nn 1) ++ (zSH x (b 7) (b 11) (bo 2) (so 2) (nn 2) ++ zSH x (b 8) (b 12) (bo 3) (so 3) (nn 3))))))) hx hb hml hown hts hl.1 hK hE hA lkX5_197 (c_X3_openSizeOf x (t 1) (zGo j S) (zGl j S 1000) (nI (zWt (zGo j S) k)) ((zGo_ok j (hI)).1)) ⟨Nat.le_of_ble_eq_true rfl, Nat.le_of_ble_eq_true rfl⟩ ⟨Nat.zero_le _, Nat.zero_le _⟩ hw 0 2 rfl rfl rfl rfl (Nat.le_of_ble_eq_true rfl) dX5_worst_46 (fun H locs hw => ?_)
          have hw : zHw x A s.heap (zHW x b t S l0 (zGo j S) (zGl j S 1000) K l2 ik fd tb tq bo so nn) H locs := hw
          refine W.eq (g2 := F0 m 49 ls [.int (zoS (zGo j S) (nI (zWt (zGo j S) k))), .int (zoS (zGo j S) (nI (k + 1)))]) (by rfl) ?_
          refine lv_icmp_le (tgt := 55) hx hb dX5_worst_49 (by decide) (fun c49 => ?_) (fun c49 => ?_)
          · have hl : lv_has ls 5 [(0, .ref (b 0)), (2, .ref ((t 1) 0)), (3, .int (nI (zWt (zGo j S) (k + 1)))), (4, .int (nI (k + 1)))] := by
              rw [show nI (zWt (zGo j S) (k + 1)) = nI (zWt (zGo j S) k) from (congrArg nI (if_neg (Int32.not_lt.mpr c49)))]; exact hl
            refine lv_iinc (v := nI (k + 1 + 1)) (lv' := [(4, .int (nI (k + 1 + 1))), (0, .ref (b 0)), (2, .ref ((t 1) 0)), (3, .int (nI (zWt (zGo j S) (k + 1))))]) hx hb dX5_worst_55 hl (k := 3) rfl (nI_1 (k + 1)) (by decide) rfl (fun ls hl => ?_)
            refine lv_goto (tgt := 31) hx hb dX5_worst_58 (by decide) ?_
            exact ih31 (k + 1) (by omega) (by omega) _ _ _ hw (lv_sub hl [1, 2, 3, 0] rfl)
          · refine lv_iload hx hb dX5_worst_52 (lv_at hl 3 rfl) ?_
            refine lv_istore_n (lv' := [(3, .int (nI (k + 1))), (0, .ref (b 0)), (2, .ref ((t 1) 0)), (4, .int (nI (k + 1)))]) hx hb dX5_worst_54 rfl hl (by decide) rfl (fun ls hl => ?_)
            have hl : lv_has ls 5 [(3, .int (nI (zWt (zGo j S) (k + 1)))), (0, .ref (b 0)), (2, .ref ((t 1) 0)), (4, .int (nI (k + 1)))] := by
              rw [show nI (zWt (zGo j S) (k + 1)) = nI (k + 1) from (congrArg nI (if_pos (Int32.not_le.mp c49)))]; exact hl
            refine lv_iinc (v := nI (k + 1 + 1)) (lv' := [(4, .int (nI (k + 1 + 1))), (3, .int (nI (zWt (zGo j S) (k + 1)))), (0, .ref (b 0)), (2, .ref ((t 1) 0))]) hx hb dX5_worst_55 hl (k := 3) rfl (nI_1 (k + 1)) (by decide) rfl (fun ls hl => ?_)
            refine lv_goto (tgt := 31) hx hb dX5_worst_58 (by decide) ?_
            exact ih31 (k + 1) (by omega) (by omega) _ _ _ hw (lv_sub hl [2, 3, 1, 0] rfl)
    exact loop31 (_ + 1) 0 (Nat.lt_succ_self _) (Nat.zero_le _) _ _ _ hw (lv_sub hl [3, 2, 1, 0] rfl)
  · have c7 := zb_0.mp c7
    refine lv_aload_n hx hb dX5_worst_10 rfl (lv_at hl 0 rfl) ?_
    refine lv_ldc (v := (-1000000001)) hx hb hown (hts _ ckX5_51) dX5_worst_11 ?_
    refine zcVwi (r := (-1000000001)) hx hb hml hown hts hl.1 hK hE hA lkX5_52 (c_X5_found x b t S l0 T l1 K l2 ik fd tb tq bo so nn (-1000000001) 0 (by decide) (by decide)) ⟨Nat.le_of_ble_eq_true rfl, Nat.le_of_ble_eq_true rfl⟩ ⟨Nat.zero_le _, Nat.zero_le _⟩ hw 0 3 rfl rfl rfl rfl (Nat.le_of_ble_eq_true rfl) dX5_worst_13 (fun H locs hw => ?_)
    have hw : zHw x A s.heap (zHW x b t S l0 T l1 K l2 ik (upd fd 0 (fd 0 + 1)) tb tq bo so nn) H locs := hw
    exact zFG.iret hx hb hr hlocks hQ hw rfl dX5_worst_16 (zPH.mk (r := zm_worst S fd n) (v := (-1000000001)) (S' := S) (fd' := zFd fd 0) (by unfold zm_worst; rw [if_neg c7]; rfl))

set_option maxHeartbeats 4000000 in
set_option maxRecDepth 100000 in
theorem c_X6_of (x : zX) (a : Nat → Nat) (q : Nat → Int32) (g : zT) (nu : Nat → Nat → Int64) (S : zT) (h w : Int32) (hI : zInv S) : zFG x mX6_of 3 [.ref (a 0), .int h, .int w] (zMW x a q g nu (zflat S)) (zPM x a q g nu (zm_of S (g 5) h w)) := by
  refine zFG.start RX6 cX6_of 3 (some .int) rfl rfl (by decide +kernel) (Nat.le_of_ble_eq_true rfl) ?_
  intro p e s m ar below meth c ls A Q hx hb hr hml hown hts hlocks hK hE hA hQ hl hw
  have hl : lv_has ls 3 [(0, .ref (a 0)), (1, .int h), (2, .int w)] := hl
  have hw : zHw x A s.heap (zMW x a q g nu (zflat S)) s.heap [] := hw
  refine lv_aload_n hx hb dX6_of_0 rfl (lv_at hl 0 rfl) ?_
  refine lv_iload_n hx hb dX6_of_1 rfl (lv_at hl 1 rfl) ?_
  refine zcVwi (r := zb (0 ≤ h ∧ h < S 0 0)) hx hb hml hown hts hl.1 hK hE hA lkX6_98 (c_X6_isHole x a q g nu S h hI) ⟨Nat.le_of_ble_eq_true rfl, Nat.le_of_ble_eq_true rfl⟩ ⟨Nat.zero_le _, Nat.zero_le _⟩ hw 0 4 rfl rfl rfl rfl (Nat.le_of_ble_eq_true rfl) dX6_of_2 (fun H locs hw => ?_)
  have hw : zHw x A s.heap (zMW x a q g nu (zflat S)) H locs := hw
  refine lv_if_eq (tgt := 20) hx hb dX6_of_5 (by decide) (fun c5 => ?_) (fun c5 => ?_)
  · have c5 := zb_0.mp c5
    refine lv_aload_n hx hb dX6_of_20 rfl (lv_at hl 0 rfl) ?_
    refine lv_ldc (v := (-1000000001)) hx hb hown (hts _ ckX6_45) dX6_of_21 ?_
    refine zcVwi (r := (-1000000001)) hx hb hml hown hts hl.1 hK hE hA lkX6_64 (c_X6_finds x a q g nu (zflat S) (-1000000001) 0 (by decide) (by decide)) ⟨Nat.le_of_ble_eq_true rfl, Nat.le_of_ble_eq_true rfl⟩ ⟨Nat.zero_le _, Nat.zero_le _⟩ hw 0 4 rfl rfl rfl rfl (Nat.le_of_ble_eq_true rfl) dX6_of_23 (fun H locs hw => ?_)
    have hw : zHw x A s.heap (zMW x a q (zU g 5 0 (g 5 0 + 1)) nu (zflat S)) H locs := hw
    exact zFG.iret hx hb hr hlocks hQ hw rfl dX6_of_26 (zPM.mk (t := zm_of S (g 5) h w) (r := (-1000000001)) (S' := S) (fd' := zFd (g 5) 0) (by unfold zm_of; first | (rw [if_neg (fun h => c17 h.2)]; rfl) | (rw [if_neg (fun h => c5 h.1)]; rfl)) (g 4) (congrArg (fun z => zMW x a q z nu _) (zG1 g 0)))
  · have c5 := zb_n0.mp c5
    refine lv_iload_n hx hb dX6_of_8 rfl (lv_at hl 2 rfl) ?_
    refine lv_i2l hx hb dX6_of_9 rfl ?_
    refine lv_lconst (v := 0) hx hb dX6_of_10 (by decide) ?_
    refine lv_ldc2 (v := 9) hx hb hown (hts _ ckX6_101) dX6_of_11 ?_
    refine zcSwi (r := zb (0 ≤ w ∧ w ≤ 9)) hx hb hml hown hts hl.1 hK hE hA lkX6_48 (c_X6_inI x (zMW x a q g nu (zflat S)) w 0 9) ⟨Nat.le_of_ble_eq_true rfl, Nat.le_of_ble_eq_true rfl⟩ ⟨Nat.zero_le _, Nat.zero_le _⟩ hw rfl rfl (Nat.le_of_ble_eq_true rfl) dX6_of_14 (fun H locs hw => ?_)
    have hw : zHw x A s.heap (zMW x a q g nu (zflat S)) H locs := hw
    refine lv_if_ne (tgt := 27) hx hb dX6_of_17 (by decide) (fun c17 => ?_) (fun c17 => ?_)
    · have c17 := zb_n0.mp c17
      obtain ⟨i, hi8, hiN, rfl⟩ := zH_nat hI c5
      refine lv_iload_n hx hb dX6_of_27 rfl (lv_at hl 2 rfl) ?_
      rcases Decidable.em (w = 6) with k6 | k6
      · refine W.eq (g2 := F0 m 28 ls (.int 6 :: [])) (by rw [k6]) ?_
        refine lv_tableIn (off := 32) (tgt := 60) hx hb dX6_of_28 (by decide) (by decide) (by decide) (by decide) ?_
        refine lv_aload_n hx hb dX6_of_60 rfl (lv_at hl 0 rfl) ?_
        refine lv_iload_n hx hb dX6_of_61 rfl (lv_at hl 1 rfl) ?_
        refine zcVwi (r := zGs S i) hx hb hml hown hts hl.1 hK hE hA lkX6_103 (c_X6_growsOf x a q g nu S i hI (by omega)) ⟨Nat.le_of_ble_eq_true rfl, Nat.le_of_ble_eq_true rfl⟩ ⟨Nat.zero_le _, Nat.zero_le _⟩ hw 0 4 rfl rfl rfl rfl (Nat.le_of_ble_eq_true rfl) dX6_of_62 (fun H locs hw => ?_)
        have hw : zHw x A s.heap (zMW x a q g nu (zflat S)) H locs := hw
        exact zFG.iret hx hb hr hlocks hQ hw rfl dX6_of_65 (zPM.mk (t := zm_of S (g 5) (nI i) w) (r := zGs S i) (S' := S) (fd' := g 5) (by subst k6; unfold zm_of; rw [if_pos ⟨c5, c17⟩, if_pos rfl, zc_nI (show i < 2147483648 by omega)]) (g 4) (congrArg (fun z => zMW x a q z nu _) (zG0 g)))
      rcases Decidable.em (w = 7) with k7 | k7
      · refine W.eq (g2 := F0 m 28 ls (.int 7 :: [])) (by rw [k7]) ?_
        refine lv_tableIn (off := 38) (tgt := 66) hx hb dX6_of_28 (by decide) (by decide) (by decide) (by decide) ?_
        refine lv_aload_n hx hb dX6_of_66 rfl (lv_at hl 0 rfl) ?_
        refine lv_iload_n hx hb dX6_of_67 rfl (lv_at hl 1 rfl) ?_
        refine zcVwi (r := zCp (S 3 i) (S 5 i)) hx hb hml hown hts hl.1 hK hE hA lkX6_95 (c_X6_costsOf x a q g nu S i (by omega)) ⟨Nat.le_of_ble_eq_true rfl, Nat.le_of_ble_eq_true rfl⟩ ⟨Nat.zero_le _, Nat.zero_le _⟩ hw 0 4 rfl rfl rfl rfl (Nat.le_of_ble_eq_true rfl) dX6_of_68 (fun H locs hw => ?_)
        have hw : zHw x A s.heap (zMW x a q g nu (zflat S)) H locs := hw
        exact zFG.iret hx hb hr hlocks hQ hw rfl dX6_of_71 (zPM.mk (t := zm_of S (g 5) (nI i) w) (r := zCp (S 3 i) (S 5 i)) (S' := S) (fd' := g 5) (by subst k7; unfold zm_of; rw [if_pos ⟨c5, c17⟩, if_neg (by decide), if_pos rfl, zc_nI (show i < 2147483648 by omega)]) (g 4) (congrArg (fun z => zMW x a q z nu _) (zG0 g)))
      rcases Decidable.em (w = 8) with k8 | k8
      · refine W.eq (g2 := F0 m 28 ls (.int 8 :: [])) (by rw [k8]) ?_
        refine lv_tableIn (off := 44) (tgt := 72) hx hb dX6_of_28 (by decide) (by decide) (by decide) (by decide) ?_
        refine lv_aload_n hx hb dX6_of_72 rfl (lv_at hl 0 rfl) ?_
        refine lv_iload_n hx hb dX6_of_73 rfl (lv_at hl 1 rfl) ?_
        refine lv_iconst (v := 0) hx hb dX6_of_74 (by decide) ?_
        refine zcVwi (r := zHd (S 3 i) 1) hx hb hml hown hts hl.1 hK hE hA lkX6_106 (c_X6_holdsOf x a q g nu S i 1 0 (by omega) (by decide)) ⟨Nat.le_of_ble_eq_true rfl, Nat.le_of_ble_eq_true rfl⟩ ⟨Nat.zero_le _, Nat.zero_le _⟩ hw 0 4 rfl rfl rfl rfl (Nat.le_of_ble_eq_true rfl) dX6_of_75 (fun H locs hw => ?_)
        have hw : zHw x A s.heap (zMW x a q g nu (zflat S)) H locs := hw
        exact zFG.iret hx hb hr hlocks hQ hw rfl dX6_of_78 (zPM.mk (t := zm_of S (g 5) (nI i) w) (r := zHd (S 3 i) 1) (S' := S) (fd' := g 5) (by subst k8; unfold zm_of; rw [if_pos ⟨c5, c17⟩, if_neg (by decide), if_neg (by decide), if_pos rfl, zc_nI (show i < 2147483648 by omega)]) (g 4) (congrArg (fun z => zMW x a q z nu _) (zG0 g)))
      rcases Decidable.em (w = 9) with k9 | k9
      · refine W.eq (g2 := F0 m 28 ls (.int 9 :: [])) (by rw [k9]) ?_
        refine lv_tableIn (off := 51) (tgt := 79) hx hb dX6_of_28 (by decide) (by decide) (by decide) (by decide) ?_
        refine lv_aload_n hx hb dX6_of_79 rfl (lv_at hl 0 rfl) ?_
        refine lv_iload_n hx hb dX6_of_80 rfl (lv_at hl 1 rfl) ?_
        refine lv_iconst (v := 1) hx hb dX6_of_81 (by decide) ?_
        refine zcVwi (r := zHd (S 3 i) 2) hx hb hml hown hts hl.1 hK hE hA lkX6_106 (c_X6_holdsOf x a q g nu S i 2 1 (by omega) (by decide)) ⟨Nat.le_of_ble_eq_true rfl, Nat.le_of_ble_eq_true rfl⟩ ⟨Nat.zero_le _, Nat.zero_le _⟩ hw 0 4 rfl rfl rfl rfl (Nat.le_of_ble_eq_true rfl) dX6_of_82 (fun H locs hw => ?_)
        have hw : zHw x A s.heap (zMW x a q g nu (zflat S)) H locs := hw
        exact zFG.iret hx hb hr hlocks hQ hw rfl dX6_of_85 (zPM.mk (t := zm_of S (g 5) (nI i) w) (r := zHd (S 3 i) 2) (S' := S) (fd' := g 5) (by subst k9; unfold zm_of; rw [if_pos ⟨c5, c17⟩, if_neg (by decide), if_neg (by decide), if_neg (by decide), if_pos rfl, zc_nI (show i < 2147483648 by omega)]) (g 4) (congrArg (fun z => zMW x a q z nu _) (zG0 g)))
      refine lv_tableOut (tgt := 86) hx hb dX6_of_28 (zouth4 k6 k7 k8 k9) (by decide) ?_
      obtain ⟨j, hj, rfl⟩ := zBw_nat (hi := 9) c17 (by decide) (by decide)
      have hj6 : j < 6 := by
        have h6 : ¬ j = 6 := fun e => k6 (by rw [e]; rfl)
        have h7 : ¬ j = 7 := fun e => k7 (by rw [e]; rfl)
        have h8 : ¬ j = 8 := fun e => k8 (by rw [e]; rfl)
        have h9 : ¬ j = 9 := fun e => k9 (by rw [e]; rfl)
        omega
      refine lv_aload_n hx hb dX6_of_86 rfl (lv_at hl 0 rfl) ?_
      refine lv_iload_n hx hb dX6_of_87 rfl (lv_at hl 1 rfl) ?_
      refine lv_iload_n hx hb dX6_of_88 rfl (lv_at hl 2 rfl) ?_
      refine zcVwi (r := S (3 + j) i) hx hb hml hown hts hl.1 hK hE hA lkX6_74 (c_X6_its x a q g nu S i j (by omega) (by omega)) ⟨Nat.le_of_ble_eq_true rfl, Nat.le_of_ble_eq_true rfl⟩ ⟨Nat.zero_le _, Nat.zero_le _⟩ hw 0 4 rfl rfl rfl rfl (Nat.le_of_ble_eq_true rfl) dX6_of_89 (fun H locs hw => ?_)
      have hw : zHw x A s.heap (zMW x a q g nu (zflat S)) H locs := hw
      exact zFG.iret hx hb hr hlocks hQ hw rfl dX6_of_92 (zPM.mk (t := zm_of S (g 5) (nI i) (nI j)) (r := S (3 + j) i) (S' := S) (fd' := g 5) (by unfold zm_of; rw [if_pos ⟨c5, c17⟩, if_neg k6, if_neg k7, if_neg k8, if_neg k9, zc_nI (show j < 2147483648 by omega), zc_nI (show i < 2147483648 by omega)]) (g 4) (congrArg (fun z => zMW x a q z nu _) (zG0 g)))
    · have c17 := zb_0.mp c17
      refine lv_aload_n hx hb dX6_of_20 rfl (lv_at hl 0 rfl) ?_
      refine lv_ldc (v := (-1000000001)) hx hb hown (hts _ ckX6_45) dX6_of_21 ?_
      refine zcVwi (r := (-1000000001)) hx hb hml hown hts hl.1 hK hE hA lkX6_64 (c_X6_finds x a q g nu (zflat S) (-1000000001) 0 (by decide) (by decide)) ⟨Nat.le_of_ble_eq_true rfl, Nat.le_of_ble_eq_true rfl⟩ ⟨Nat.zero_le _, Nat.zero_le _⟩ hw 0 4 rfl rfl rfl rfl (Nat.le_of_ble_eq_true rfl) dX6_of_23 (fun H locs hw => ?_)
      have hw : zHw x A s.heap (zMW x a q (zU g 5 0 (g 5 0 + 1)) nu (zflat S)) H locs := hw
      exact zFG.iret hx hb hr hlocks hQ hw rfl dX6_of_26 (zPM.mk (t := zm_of S (g 5) h w) (r := (-1000000001)) (S' := S) (fd' := zFd (g 5) 0) (by unfold zm_of; first | (rw [if_neg (fun h => c17 h.2)]; rfl) | (rw [if_neg (fun h => c5 h.1)]; rfl)) (g 4) (congrArg (fun z => zMW x a q z nu _) (zG1 g 0)))
