set_option maxHeartbeats 4000000 in
set_option maxRecDepth 100000 in
theorem c_X5_budget (x : zX) (b : Nat → Nat) (t : Nat → Nat → Nat) (S : zT) (l0 : Int32) (T : zT) (l1 : Int32) (K : zT) (l2 ik : Int32) (fd tb tq bo so : Nat → Int32) (nn : Nat → Nat → Int64) (n v : Int32) (hI : zInv S) : zFG x mX5_budget 6 [.ref (b 0), .int n, .int v] (zHW x b t S l0 T l1 K l2 ik fd tb tq bo so nn) (zPH x b t K l2 ik tb tq bo so nn (zm_least 2 999 20 S fd n v)) := by
  refine zFG.start RX5 cX5_budget 6 (some .int) rfl rfl (by decide +kernel) (Nat.le_of_ble_eq_true rfl) ?_
  intro p e s m ar below meth c ls A Q hx hb hr hml hown hts hlocks hK hE hA hQ hl hw
  have hl : lv_has ls 6 [(0, .ref (b 0)), (1, .int n), (2, .int v)] := hl
  have hw : zHw x A s.heap (zHW x b t S l0 T l1 K l2 ik fd tb tq bo so nn) s.heap [] := hw
  refine lv_iload_n hx hb dX5_budget_0 rfl (lv_at hl 1 rfl) ?_
  refine lv_iconst (v := 1) hx hb dX5_budget_1 (by decide) ?_
  refine lv_bipush (v := 20) hx hb dX5_budget_2 (by decide) ?_
  refine zcSwi (r := zb (1 ≤ n ∧ n ≤ 20)) hx hb hml hown hts hl.1 hK hE hA lkX5_44 (c_X5_within x (zHW x b t S l0 T l1 K l2 ik fd tb tq bo so nn) n 1 20) ⟨Nat.le_of_ble_eq_true rfl, Nat.le_of_ble_eq_true rfl⟩ ⟨Nat.zero_le _, Nat.zero_le _⟩ hw rfl rfl (Nat.le_of_ble_eq_true rfl) dX5_budget_4 (fun H locs hw => ?_)
  have hw : zHw x A s.heap (zHW x b t S l0 T l1 K l2 ik fd tb tq bo so nn) H locs := hw
  refine lv_if_eq (tgt := 21) hx hb dX5_budget_7 (by decide) (fun c7 => ?_) (fun c7 => ?_)
  · have c7 := zb_0.mp c7
    refine lv_aload_n hx hb dX5_budget_21 rfl (lv_at hl 0 rfl) ?_
    refine lv_ldc (v := (-1000000001)) hx hb hown (hts _ ckX5_51) dX5_budget_22 ?_
    refine zcVwi (r := (-1000000001)) hx hb hml hown hts hl.1 hK hE hA lkX5_52 (c_X5_found x b t S l0 T l1 K l2 ik fd tb tq bo so nn (-1000000001) 0 (by decide) (by decide)) ⟨Nat.le_of_ble_eq_true rfl, Nat.le_of_ble_eq_true rfl⟩ ⟨Nat.zero_le _, Nat.zero_le _⟩ hw 0 3 rfl rfl rfl rfl (Nat.le_of_ble_eq_true rfl) dX5_budget_24 (fun H locs hw => ?_)
    have hw : zHw x A s.heap (zHW x b t S l0 T l1 K l2 ik (upd fd 0 (fd 0 + 1)) tb tq bo so nn) H locs := hw
    exact zFG.iret hx hb hr hlocks hQ hw rfl dX5_budget_27 (zPH.mk (r := zm_least 2 999 20 S fd n v) (v := (-1000000001)) (S' := S) (fd' := zFd fd 0) (by unfold zm_least; first | (rw [if_neg (fun h => c18 h.2)]; rfl) | (rw [if_neg (fun h => c7 h.1)]; rfl)))
  · have c7 := zb_n0.mp c7
    refine lv_iload_n hx hb dX5_budget_10 rfl (lv_at hl 2 rfl) ?_
    refine lv_iconst (v := 0) hx hb dX5_budget_11 (by decide) ?_
    refine lv_sipush (v := 999) hx hb dX5_budget_12 (by decide) ?_
    refine zcSwi (r := zb (0 ≤ v ∧ v ≤ 999)) hx hb hml hown hts hl.1 hK hE hA lkX5_44 (c_X5_within x (zHW x b t S l0 T l1 K l2 ik fd tb tq bo so nn) v 0 999) ⟨Nat.le_of_ble_eq_true rfl, Nat.le_of_ble_eq_true rfl⟩ ⟨Nat.zero_le _, Nat.zero_le _⟩ hw rfl rfl (Nat.le_of_ble_eq_true rfl) dX5_budget_15 (fun H locs hw => ?_)
    have hw : zHw x A s.heap (zHW x b t S l0 T l1 K l2 ik fd tb tq bo so nn) H locs := hw
    refine lv_if_ne (tgt := 28) hx hb dX5_budget_18 (by decide) (fun c18 => ?_) (fun c18 => ?_)
    · have c18 := zb_n0.mp c18
      obtain ⟨j, hj, rfl⟩ := zBw_nat (hi := 20) c7 (by decide) (by decide)
      refine lv_iconst (v := 1) hx hb dX5_budget_28 (by decide) ?_
      refine lv_istore_n (lv' := [(3, .int 1), (0, .ref (b 0)), (1, .int (nI j)), (2, .int v)]) hx hb dX5_budget_29 rfl hl (by decide) rfl (fun ls hl => ?_)
      refine lv_iconst (v := 0) hx hb dX5_budget_30 (by decide) ?_
      refine lv_istore (lv' := [(4, .int 0), (3, .int 1), (0, .ref (b 0)), (1, .int (nI j)), (2, .int v)]) hx hb dX5_budget_31 hl (by decide) rfl (fun ls hl => ?_)
      have loop33 : ∀ (dd : Nat) (k : Nat) (U : zT) (lj : Int32) (y : Int32), 2000 - k < dd → (hk : k < 2000) → (e1 : zF1 (zpL S 2 j v) (1000 - k) k = zF1 (zpL S 2 j v) 1000 0) → ∀ (H : Heap) (locs : List Loc) (ls : Array Slot), zHw x A s.heap (zHW x b t S l0 U lj K l2 ik fd tb tq bo so nn) H locs → lv_has ls 6 [(0, .ref (b 0)), (1, .int (nI j)), (2, .int v), (3, .int y), (4, .int (nI k))] → W p x.1 e (zRM 6) s m ar below meth c H locs 0 0 Q (F0 m 33 ls []) := by
        intro dd
        induction dd with
        | zero => intro k U lj y hm; exact absurd hm (Nat.not_lt_zero _)
        | succ dd ih33 =>
          intro k U lj y hm hk e1 H locs ls hw hl
          refine lv_iload hx hb dX5_budget_33 (lv_at hl 4 rfl) ?_
          refine lv_sipush (v := 999) hx hb dX5_budget_35 (by decide) ?_
          refine lv_icmp_gt (tgt := 89) hx hb dX5_budget_38 (by decide) (fun c38 => ?_) (fun c38 => ?_)
          · refine lv_aload_n hx hb dX5_budget_89 rfl (lv_at hl 0 rfl) ?_
            refine lv_ldc (v := (-1000000004)) hx hb hown (hts _ ckX5_142) dX5_budget_90 ?_
            refine zcVwi (r := (-1000000004)) hx hb hml hown hts hl.1 hK hE hA lkX5_52 (c_X5_found x b t S l0 U lj K l2 ik fd tb tq bo so nn (-1000000004) 3 (by decide) (by decide)) ⟨Nat.le_of_ble_eq_true rfl, Nat.le_of_ble_eq_true rfl⟩ ⟨Nat.zero_le _, Nat.zero_le _⟩ hw 0 3 rfl rfl rfl rfl (Nat.le_of_ble_eq_true rfl) dX5_budget_92 (fun H locs hw => ?_)
            have hw : zHw x A s.heap (zHW x b t S l0 U lj K l2 ik (upd fd 3 (fd 3 + 1)) tb tq bo so nn) H locs := hw
            exact zFG.iret hx hb hr hlocks hQ hw rfl dX5_budget_95 (zPH.mk (r := zm_least 2 999 20 S fd (nI j) v) (v := (-1000000004)) (S' := S) (fd' := zFd fd 3) (by unfold zm_least; rw [if_pos ⟨c7, c18⟩, zc_nI (show j < 2147483648 by omega), ← e1, zge1000 hk c38]; rfl))
          · have hkn : k ≤ 999 := (nI_leI (b := 999) (by omega) (by decide)).mp (Int32.not_lt.mp c38)
            have hd : 1000 - k = (1000 - (k + 1)) + 1 := by omega
            refine lv_aload_n hx hb dX5_budget_41 rfl (lv_at hl 0 rfl) ?_
            refine zcVwa hx hb hml hown hts hl.1 hK hE hA lkX5_171 (c_X5_asItIs x b t S l0 U lj K l2 ik fd tb tq bo so nn) ⟨Nat.le_of_ble_eq_true rfl, Nat.le_of_ble_eq_true rfl⟩ ⟨Nat.zero_le _, Nat.zero_le _⟩ hw 0 3 rfl rfl rfl rfl (Nat.le_of_ble_eq_true rfl) dX5_budget_42 (fun H locs hw => ?_)
            have hw : zHw x A s.heap (zHW x b t S l0 S 1000 K l2 ik fd tb tq bo so nn) H locs := hw
            refine lv_astore (lv' := [(5, .ref ((t 1) 0)), (0, .ref (b 0)), (1, .int (nI j)), (2, .int v), (3, .int y), (4, .int (nI k))]) hx hb dX5_budget_45 hl (by decide) rfl (fun ls hl => ?_)
            refine lv_aload hx hb dX5_budget_47 (lv_at hl 0 rfl) ?_
            refine lv_iload hx hb dX5_budget_49 (lv_at hl 5 rfl) ?_
            refine pfX5_130 hx hb hown hts hK hw 12 rfl (Nat.le_of_ble_eq_true rfl) dX5_budget_51 (fun H locs hw => ?_)
            have hw : zHw x A s.heap (zHW x b t S l0 (zU S 0 2 (nI k)) 1000 K l2 ik fd tb tq bo so nn) H locs := hw
            refine lv_aload hx hb dX5_budget_54 (lv_at hl 0 rfl) ?_
            refine lv_iload_n hx hb dX5_budget_56 rfl (lv_at hl 2 rfl) ?_
            refine zcVma (C1 := (zOW x b t ik fd ++ zTW x (t 0) S l0)) (C2 := (zTW x (t 2) K l2 ++ (zPW x b tb tq ++ (zSH x (b 5) (b 9) (bo 0) (so 0) (nn 0) ++ (zSH x (b 6) (b 10) (bo 1) (so 1) (nn 1) ++ (zSH x (b 7) (b 11) (bo 2) (so 2) (nn 2) ++ zSH x (b 8) (b 12) (bo 3) (so 3) (nn 3))))))) hx hb hml hown hts hl.1 hK hE hA lkX5_146 (c_X3_goWeeks x (t 1) (zU S 0 2 (nI k)) 1000 j (hI.u (c := 0) (j := 2) (v := nI k) (Or.inr ⟨k, (show k ≤ 99999 by omega), rfl⟩)) (by omega)) ⟨Nat.le_of_ble_eq_true rfl, Nat.le_of_ble_eq_true rfl⟩ ⟨Nat.zero_le _, Nat.zero_le _⟩ hw 0 2 rfl rfl rfl rfl (Nat.le_of_ble_eq_true rfl) dX5_budget_57 (fun H locs hw => ?_)
            have hw : zHw x A s.heap (zHW x b t S l0 (zGo j (zU S 0 2 (nI k))) (zGl j (zU S 0 2 (nI k)) 1000) K l2 ik fd tb tq bo so nn) H locs := hw
            refine zcVmi (r := zSu (zopn (zGo j (zU S 0 2 (nI k)))) ((zGo j (zU S 0 2 (nI k))) 5) (zN (zGo j (zU S 0 2 (nI k))))) (C1 := (zOW x b t ik fd ++ zTW x (t 0) S l0)) (C2 := (zTW x (t 2) K l2 ++ (zPW x b tb tq ++ (zSH x (b 5) (b 9) (bo 0) (so 0) (nn 0) ++ (zSH x (b 6) (b 10) (bo 1) (so 1) (nn 1) ++ (zSH x (b 7) (b 11) (bo 2) (so 2) (nn 2) ++ zSH x (b 8) (b 12) (bo 3) (so 3) (nn 3))))))) hx hb hml hown hts hl.1 hK hE hA lkX5_168 (c_X3_openSize x (t 1) (zGo j (zU S 0 2 (nI k))) (zGl j (zU S 0 2 (nI k)) 1000) ((zGo_ok j (hI.u (c := 0) (j := 2) (v := nI k) (Or.inr ⟨k, (show k ≤ 99999 by omega), rfl⟩))).1)) ⟨Nat.le_of_ble_eq_true rfl, Nat.le_of_ble_eq_true rfl⟩ ⟨Nat.zero_le _, Nat.zero_le _⟩ hw 0 2 rfl rfl rfl rfl (Nat.le_of_ble_eq_true rfl) dX5_budget_60 (fun H locs hw => ?_)
            have hw : zHw x A s.heap (zHW x b t S l0 (zGo j (zU S 0 2 (nI k))) (zGl j (zU S 0 2 (nI k)) 1000) K l2 ik fd tb tq bo so nn) H locs := hw
            refine lv_iload_n hx hb dX5_budget_63 rfl (lv_at hl 3 rfl) ?_
            refine lv_icmp_gt (tgt := 70) hx hb dX5_budget_64 (by decide) (fun c64 => ?_) (fun c64 => ?_)
            · obtain ⟨m2, hm1, hm2, em⟩ := zGl_in j (S := zU S 0 2 (nI k)) (lk := 1000) (hI.u (c := 0) (j := 2) (v := nI k) (Or.inr ⟨k, (show k ≤ 99999 by omega), rfl⟩)) ⟨1000, by decide, by decide, rfl⟩
              refine lv_iconst (v := 1) hx hb dX5_budget_70 (by decide) ?_
              refine lv_aload hx hb dX5_budget_71 (lv_at hl 0 rfl) ?_
              refine gfX5_185 hx hb hown hts hK hw 12 rfl rfl dX5_budget_73 ?_
              refine zmax hx hb (hml.trans hl.1.symm) hown hts lkX5_188 zmath ⟨Nat.le_of_ble_eq_true rfl, Nat.le_of_ble_eq_true rfl, Nat.zero_le _, Nat.zero_le _⟩ dX5_budget_76 ?_
              refine W.eq (g2 := F0 m 79 ls [.int (nI m2)]) (by rw [em, zstep hm1 hm2]) ?_
              refine lv_istore_n (lv' := [(3, .int (nI m2)), (5, .ref ((t 1) 0)), (0, .ref (b 0)), (1, .int (nI j)), (2, .int v), (4, .int (nI k))]) hx hb dX5_budget_79 rfl hl (by decide) rfl (fun ls hl => ?_)
              refine lv_iload hx hb dX5_budget_80 (lv_at hl 5 rfl) ?_
              refine lv_iload_n hx hb dX5_budget_82 rfl (lv_at hl 0 rfl) ?_
              refine lv_iadd hx hb dX5_budget_83 ?_
              refine W.eq (g2 := F0 m 84 ls [.int (nI (k + m2))]) (by rw [nI_add]) ?_
              refine lv_istore (lv' := [(4, .int (nI (k + m2))), (3, .int (nI m2)), (5, .ref ((t 1) 0)), (0, .ref (b 0)), (1, .int (nI j)), (2, .int v)]) hx hb dX5_budget_84 hl (by decide) rfl (fun ls hl => ?_)
              refine lv_goto (tgt := 33) hx hb dX5_budget_86 (by decide) ?_
              exact ih33 (k + m2) (zGo j (zU S 0 2 (nI k))) (zGl j (zU S 0 2 (nI k)) 1000) (nI m2) (by omega) (by omega) (by rw [← e1, zbskip hI (by omega) hm2 em (fun e => absurd (of_decide_eq_true e) (Int32.not_le.mpr c64))]) _ _ _ hw (lv_sub hl [3, 4, 5, 1, 0] rfl)
            · refine lv_iload hx hb dX5_budget_67 (lv_at hl 5 rfl) ?_
              exact zFG.iret hx hb hr hlocks hQ hw rfl dX5_budget_69 (zPH.mk (r := zm_least 2 999 20 S fd (nI j) v) (v := nI k) (S' := S) (fd' := fd) (by unfold zm_least; rw [if_pos ⟨c7, c18⟩, zc_nI (show j < 2147483648 by omega), ← e1, hd, zF1_t (decide_eq_true (Int32.not_lt.mp c64))]))
      exact loop33 (_ + 1) 0 T l1 1 (Nat.lt_succ_self _) (by decide) rfl _ _ _ hw (lv_sub hl [2, 3, 4, 1, 0] rfl)
    · have c18 := zb_0.mp c18
      refine lv_aload_n hx hb dX5_budget_21 rfl (lv_at hl 0 rfl) ?_
      refine lv_ldc (v := (-1000000001)) hx hb hown (hts _ ckX5_51) dX5_budget_22 ?_
      refine zcVwi (r := (-1000000001)) hx hb hml hown hts hl.1 hK hE hA lkX5_52 (c_X5_found x b t S l0 T l1 K l2 ik fd tb tq bo so nn (-1000000001) 0 (by decide) (by decide)) ⟨Nat.le_of_ble_eq_true rfl, Nat.le_of_ble_eq_true rfl⟩ ⟨Nat.zero_le _, Nat.zero_le _⟩ hw 0 3 rfl rfl rfl rfl (Nat.le_of_ble_eq_true rfl) dX5_budget_24 (fun H locs hw => ?_)
      have hw : zHw x A s.heap (zHW x b t S l0 T l1 K l2 ik (upd fd 0 (fd 0 + 1)) tb tq bo so nn) H locs := hw
      exact zFG.iret hx hb hr hlocks hQ hw rfl dX5_budget_27 (zPH.mk (r := zm_least 2 999 20 S fd n v) (v := (-1000000001)) (S' := S) (fd' := zFd fd 0) (by unfold zm_least; first | (rw [if_neg (fun h => c18 h.2)]; rfl) | (rw [if_neg (fun h => c7 h.1)]; rfl)))
