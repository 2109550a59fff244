set_option maxHeartbeats 4000000 in
set_option maxRecDepth 100000 in
theorem c_X6_how (x : zX) (a : Nat → Nat) (q : Nat → Int32) (g : zT) (nu : Nat → Nat → Int64) (S : zT) (n : Int32) (hI : zInv S) : zFG x mX6_how 9 [.ref (a 0), .int n] (zMW x a q g nu (zflat S)) (zPM x a q g nu (zm_how S (g 5) n)) := by
  refine zFG.start RX6 cX6_how 5 (some .int) rfl rfl (by decide +kernel) (Nat.le_of_ble_eq_true rfl) ?_
  intro p e s m ar below meth c ls A Q hx hb hr hml hown hts hlocks hK hE hA hQ hl hw
  have hl : lv_has ls 5 [(0, .ref (a 0)), (1, .int n)] := hl
  have hw : zHw x A s.heap (zMW x a q g nu (zflat S)) s.heap [] := hw
  refine lv_iload_n hx hb dX6_how_0 rfl (lv_at hl 1 rfl) ?_
  refine lv_iconst (v := 1) hx hb dX6_how_1 (by decide) ?_
  refine lv_bipush (v := 104) hx hb dX6_how_2 (by decide) ?_
  refine zcSwi (r := zb (1 ≤ n ∧ n ≤ 104)) hx hb hml hown hts hl.1 hK hE hA lkX6_161 (c_X6_isFar x (zMW x a q g nu (zflat S)) n 1 104) ⟨Nat.le_of_ble_eq_true rfl, Nat.le_of_ble_eq_true rfl⟩ ⟨Nat.zero_le _, Nat.zero_le _⟩ hw rfl rfl (Nat.le_of_ble_eq_true rfl) dX6_how_4 (fun H locs hw => ?_)
  have hw : zHw x A s.heap (zMW x a q g nu (zflat S)) H locs := hw
  refine lv_if_ne (tgt := 17) hx hb dX6_how_7 (by decide) (fun c7 => ?_) (fun c7 => ?_)
  · have c7 := zb_n0.mp c7
    obtain ⟨j, hj, rfl⟩ := zBw_nat (hi := 104) c7 (by decide) (by decide)
    refine lv_aload_n hx hb dX6_how_17 rfl (lv_at hl 0 rfl) ?_
    refine lv_iconst (v := 5) hx hb dX6_how_18 (by decide) ?_
    refine lv_iconst (v := 0) hx hb dX6_how_19 (by decide) ?_
    refine zcVwi (r := S 0 5) hx hb hml hown hts hl.1 hK hE hA lkX6_61 (c_X6_becomes x a q g nu (zflat S) 5 0 (by decide)) ⟨Nat.le_of_ble_eq_true rfl, Nat.le_of_ble_eq_true rfl⟩ ⟨Nat.zero_le _, Nat.zero_le _⟩ hw 0 4 rfl rfl rfl rfl (Nat.le_of_ble_eq_true rfl) dX6_how_20 (fun H locs hw => ?_)
    have hw : zHw x A s.heap (zMW x a q g nu (zflat (zU S 0 5 0))) H locs := (by rw [zflat_usc S 0 (show 5 < 7 by decide)] at hw; exact hw)
    refine lv_istore_n (lv' := [(2, .int (S 0 5)), (0, .ref (a 0)), (1, .int (nI j))]) hx hb dX6_how_23 rfl hl (by decide) rfl (fun ls hl => ?_)
    refine lv_aload_n hx hb dX6_how_24 rfl (lv_at hl 1 rfl) ?_
    refine lv_iload_n hx hb dX6_how_25 rfl (lv_at hl 2 rfl) ?_
    refine zcVwi (r := zWr (zGo j (zU S 0 5 0))) hx hb hml hown hts hl.1 hK hE hA lkX6_171 (c_X6_worseIn x a q g nu (zU S 0 5 0) j (hI.u (Or.inr ⟨0, by decide, rfl⟩)) (by omega)) ⟨Nat.le_of_ble_eq_true rfl, Nat.le_of_ble_eq_true rfl⟩ ⟨Nat.zero_le _, Nat.zero_le _⟩ hw 0 4 rfl rfl rfl rfl (Nat.le_of_ble_eq_true rfl) dX6_how_26 (fun H locs hw => ?_)
    have hw : zHw x A s.heap (zMW x a q (zV g 4 (zflat (zU S 0 5 0))) nu (zflat (zU S 0 5 0))) H locs := hw
    refine lv_istore_n (lv' := [(3, .int (zWr (zGo j (zU S 0 5 0)))), (2, .int (S 0 5)), (0, .ref (a 0)), (1, .int (nI j))]) hx hb dX6_how_29 rfl hl (by decide) rfl (fun ls hl => ?_)
    refine lv_aload_n hx hb dX6_how_30 rfl (lv_at hl 2 rfl) ?_
    refine gfX6_7 hx hb hown hts hK hw 0 rfl rfl dX6_how_31 ?_
    refine lv_iconst (v := 5) hx hb dX6_how_34 (by decide) ?_
    refine lv_iconst (v := 1) hx hb dX6_how_35 (by decide) ?_
    refine zias2 (f' := zflat (zU (zU S 0 5 0) 0 5 1)) hx hb hK hw 1 0 5 rfl rfl rfl (by decide) (by decide) dX6_how_36 (zflat_usc (zU S 0 5 0) _ (by decide)) (fun H locs hw => ?_)
    have hw : zHw x A s.heap (zMW x a q (zV g 4 (zflat (zU S 0 5 0))) nu (zflat (zU (zU S 0 5 0) 0 5 1))) H locs := hw
    have hw : zHw x A s.heap (zMW x a q (zV g 4 (zflat (zU S 0 5 0))) nu (zflat (zU S 0 5 1))) H locs := hw.re (congrArg (fun z => zMW x a q _ nu (zflat z)) (zU_U S 0 5 0 1))
    refine lv_aload_n hx hb dX6_how_37 rfl (lv_at hl 2 rfl) ?_
    refine lv_iload_n hx hb dX6_how_38 rfl (lv_at hl 3 rfl) ?_
    refine zcVwi (r := zWr (zGo j (zU S 0 5 1))) hx hb hml hown hts hl.1 hK hE hA lkX6_171 (c_X6_worseIn x a q (zV g 4 (zflat (zU S 0 5 0))) nu (zU S 0 5 1) j (hI.u (Or.inr ⟨1, by decide, rfl⟩)) (by omega)) ⟨Nat.le_of_ble_eq_true rfl, Nat.le_of_ble_eq_true rfl⟩ ⟨Nat.zero_le _, Nat.zero_le _⟩ hw 0 4 rfl rfl rfl rfl (Nat.le_of_ble_eq_true rfl) dX6_how_39 (fun H locs hw => ?_)
    have hw : zHw x A s.heap (zMW x a q (zV (zV g 4 (zflat (zU S 0 5 0))) 4 (zflat (zU S 0 5 1))) nu (zflat (zU S 0 5 1))) H locs := hw
    refine lv_istore (lv' := [(4, .int (zWr (zGo j (zU S 0 5 1)))), (3, .int (zWr (zGo j (zU S 0 5 0)))), (2, .int (S 0 5)), (0, .ref (a 0)), (1, .int (nI j))]) hx hb dX6_how_42 hl (by decide) rfl (fun ls hl => ?_)
    have hw : zHw x A s.heap (zMW x a q (zV g 4 (zflat (zU S 0 5 1))) nu (zflat (zU S 0 5 1))) H locs := hw.re (congrArg (fun z => zMW x a q z nu _) (zV_V _ _ _ _))
    refine lv_aload_n hx hb dX6_how_44 rfl (lv_at hl 3 rfl) ?_
    refine gfX6_7 hx hb hown hts hK hw 0 rfl rfl dX6_how_45 ?_
    refine lv_iconst (v := 5) hx hb dX6_how_48 (by decide) ?_
    refine lv_iload_n hx hb dX6_how_49 rfl (lv_at hl 2 rfl) ?_
    refine zias2 (f' := zflat (zU (zU S 0 5 1) 0 5 (S 0 5))) hx hb hK hw 1 0 5 rfl rfl rfl (by decide) (by decide) dX6_how_50 (zflat_usc (zU S 0 5 1) _ (by decide)) (fun H locs hw => ?_)
    have hw : zHw x A s.heap (zMW x a q (zV g 4 (zflat (zU S 0 5 1))) nu (zflat (zU (zU S 0 5 1) 0 5 (S 0 5)))) H locs := hw
    have hw : zHw x A s.heap (zMW x a q (zV g 4 (zflat (zU S 0 5 1))) nu (zflat S)) H locs := hw.re (congrArg (fun z => zMW x a q _ nu (zflat z)) (zU_back S 0 5 1))
    refine lv_iload hx hb dX6_how_51 (lv_at hl 0 rfl) ?_
    refine lv_iload_n hx hb dX6_how_53 rfl (lv_at hl 1 rfl) ?_
    refine lv_icmp_ge (tgt := 61) hx hb dX6_how_54 (by decide) (fun c54 => ?_) (fun c54 => ?_)
    · refine lv_iconst (v := 0) hx hb dX6_how_61 (by decide) ?_
      exact zFG.iret hx hb hr hlocks hQ hw rfl dX6_how_62 (zPM.mk (t := zm_how S (g 5) (nI j)) (r := 0) (S' := S) (fd' := g 5) (by unfold zm_how; rw [if_pos c7, zc_nI (show j < 2147483648 by omega)]; first | rw [if_pos (Int32.not_le.mp c54)] | rw [if_neg (Int32.not_lt.mpr c54)]) (zflat (zU S 0 5 1)) (congrArg (fun z => zMW x a q z nu _) (zG2 g (zflat (zU S 0 5 1)))))
    · refine lv_iconst (v := 1) hx hb dX6_how_57 (by decide) ?_
      refine lv_goto (tgt := 62) hx hb dX6_how_58 (by decide) ?_
      exact zFG.iret hx hb hr hlocks hQ hw rfl dX6_how_62 (zPM.mk (t := zm_how S (g 5) (nI j)) (r := 1) (S' := S) (fd' := g 5) (by unfold zm_how; rw [if_pos c7, zc_nI (show j < 2147483648 by omega)]; first | rw [if_pos (Int32.not_le.mp c54)] | rw [if_neg (Int32.not_lt.mpr c54)]) (zflat (zU S 0 5 1)) (congrArg (fun z => zMW x a q z nu _) (zG2 g (zflat (zU S 0 5 1)))))
  · have c7 := zb_0.mp c7
    refine lv_aload_n hx hb dX6_how_10 rfl (lv_at hl 0 rfl) ?_
    refine lv_ldc (v := (-1000000001)) hx hb hown (hts _ ckX6_45) dX6_how_11 ?_
    refine zcVwi (r := (-1000000001)) hx hb hml hown hts hl.1 hK hE hA lkX6_64 (c_X6_finds x a q g nu (zflat S) (-1000000001) 0 (by decide) (by decide)) ⟨Nat.le_of_ble_eq_true rfl, Nat.le_of_ble_eq_true rfl⟩ ⟨Nat.zero_le _, Nat.zero_le _⟩ hw 0 4 rfl rfl rfl rfl (Nat.le_of_ble_eq_true rfl) dX6_how_13 (fun H locs hw => ?_)
    have hw : zHw x A s.heap (zMW x a q (zU g 5 0 (g 5 0 + 1)) nu (zflat S)) H locs := hw
    exact zFG.iret hx hb hr hlocks hQ hw rfl dX6_how_16 (zPM.mk (t := zm_how S (g 5) n) (r := (-1000000001)) (S' := S) (fd' := zFd (g 5) 0) (by unfold zm_how; rw [if_neg c7]; rfl) (g 4) (congrArg (fun z => zMW x a q z nu _) (zG1 g 0)))

set_option maxHeartbeats 4000000 in
set_option maxRecDepth 100000 in
theorem c_X6_ring (x : zX) (a : Nat → Nat) (q : Nat → Int32) (g : zT) (nu : Nat → Nat → Int64) (S : zT) (n : Int32) (hI : zInv S) : zFG x mX6_ring 9 [.ref (a 0), .int n] (zMW x a q g nu (zflat S)) (zPM x a q g nu (zm_ring S (g 5) n)) := by
  have hz0 := zN_0 hI
  have h8 := zN_le hI
  refine zFG.start RX6 cX6_ring 7 (some .int) rfl rfl (by decide +kernel) (Nat.le_of_ble_eq_true rfl) ?_
  intro p e s m ar below meth c ls A Q hx hb hr hml hown hts hlocks hK hE hA hQ hl hw
  have hl : lv_has ls 7 [(0, .ref (a 0)), (1, .int n)] := hl
  have hw : zHw x A s.heap (zMW x a q g nu (zflat S)) s.heap [] := hw
  refine lv_iload_n hx hb dX6_ring_0 rfl (lv_at hl 1 rfl) ?_
  refine lv_iconst (v := 1) hx hb dX6_ring_1 (by decide) ?_
  refine lv_bipush (v := 52) hx hb dX6_ring_2 (by decide) ?_
  refine zcSwi (r := zb (1 ≤ n ∧ n ≤ 52)) hx hb hml hown hts hl.1 hK hE hA lkX6_161 (c_X6_isFar x (zMW x a q g nu (zflat S)) n 1 52) ⟨Nat.le_of_ble_eq_true rfl, Nat.le_of_ble_eq_true rfl⟩ ⟨Nat.zero_le _, Nat.zero_le _⟩ hw rfl rfl (Nat.le_of_ble_eq_true rfl) dX6_ring_4 (fun H locs hw => ?_)
  have hw : zHw x A s.heap (zMW x a q g nu (zflat S)) H locs := hw
  refine lv_if_ne (tgt := 17) hx hb dX6_ring_7 (by decide) (fun c7 => ?_) (fun c7 => ?_)
  · have c7 := zb_n0.mp c7
    obtain ⟨j, hj, rfl⟩ := zBw_nat (hi := 52) c7 (by decide) (by decide)
    refine lv_iconst (v := (-1)) hx hb dX6_ring_17 (by decide) ?_
    refine lv_istore_n (lv' := [(2, .int (-1)), (0, .ref (a 0)), (1, .int (nI j))]) hx hb dX6_ring_18 rfl hl (by decide) rfl (fun ls hl => ?_)
    refine lv_iconst (v := 0) hx hb dX6_ring_19 (by decide) ?_
    refine lv_istore_n (lv' := [(3, .int 0), (2, .int (-1)), (0, .ref (a 0)), (1, .int (nI j))]) hx hb dX6_ring_20 rfl hl (by decide) rfl (fun ls hl => ?_)
    refine lv_iconst (v := 0) hx hb dX6_ring_21 (by decide) ?_
    refine lv_istore (lv' := [(4, .int 0), (3, .int 0), (2, .int (-1)), (0, .ref (a 0)), (1, .int (nI j))]) hx hb dX6_ring_22 hl (by decide) rfl (fun ls hl => ?_)
    have loop24 : ∀ (dd : Nat) (k : Nat) (G : Nat → Int32), zN S - k < dd → (hk : k ≤ zN S) → ∀ (H : Heap) (locs : List Loc) (ls : Array Slot), zHw x A s.heap (zMW x a q (zV g 4 G) nu (zflat S)) H locs → lv_has ls 7 [(0, .ref (a 0)), (1, .int (nI j)), (2, .int (zo (zRb S j k).1)), (3, .int ((zRb S j k).2)), (4, .int (nI k))] → W p x.1 e (zRM 9) s m ar below meth c H locs 0 0 Q (F0 m 24 ls []) := by
      intro dd
      induction dd with
      | zero => intro k G hm; exact absurd hm (Nat.not_lt_zero _)
      | succ dd ih24 =>
        intro k G hm hk H locs ls hw hl
        refine lv_iload hx hb dX6_ring_24 (lv_at hl 4 rfl) ?_
        refine lv_aload_n hx hb dX6_ring_26 rfl (lv_at hl 0 rfl) ?_
        refine gfX6_7 hx hb hown hts hK hw 0 rfl rfl dX6_ring_27 ?_
        refine lv_iconst (v := 0) hx hb dX6_ring_30 (by decide) ?_
        refine zial2 (v := S 0 0) hx hb hK hw 1 0 0 rfl rfl rfl (by decide) (by decide) dX6_ring_31 rfl ?_
        refine lv_icmp_ge (tgt := 123) hx hb dX6_ring_32 (by decide) (fun c32 => ?_) (fun c32 => ?_)
        · have hke : k = zN S := zke hz0 (by omega) hk c32
          rcases hbb : (zRb S j k).1 with _ | b
          · have hl : lv_has ls 7 [(0, .ref (a 0)), (1, .int (nI j)), (2, .int (-1)), (3, .int ((zRb S j k).2)), (4, .int (nI k))] := by
              rw [show (-1) = zo (zRb S j k).1 from (by rw [hbb]; rfl)]; exact hl
            refine lv_iload_n hx hb dX6_ring_123 rfl (lv_at hl 2 rfl) ?_
            refine lv_if_ge (tgt := 136) hx hb dX6_ring_124 (by decide) (fun c124 => absurd c124 (by decide)) (fun c124 => ?_)
            refine lv_aload_n hx hb dX6_ring_127 rfl (lv_at hl 0 rfl) ?_
            refine lv_ldc (v := (-1000000004)) hx hb hown (hts _ ckX6_142) dX6_ring_128 ?_
            refine zcVwi (r := (-1000000004)) hx hb hml hown hts hl.1 hK hE hA lkX6_64 (c_X6_finds x a q (zV g 4 G) nu (zflat S) (-1000000004) 3 (by decide) (by decide)) ⟨Nat.le_of_ble_eq_true rfl, Nat.le_of_ble_eq_true rfl⟩ ⟨Nat.zero_le _, Nat.zero_le _⟩ hw 0 4 rfl rfl rfl rfl (Nat.le_of_ble_eq_true rfl) dX6_ring_130 (fun H locs hw => ?_)
            have hw : zHw x A s.heap (zMW x a q (zU (zV g 4 G) 5 3 ((zV g 4 G) 5 3 + 1)) nu (zflat S)) H locs := hw
            refine lv_goto (tgt := 137) hx hb dX6_ring_133 (by decide) ?_
            exact zFG.iret hx hb hr hlocks hQ hw rfl dX6_ring_137 (zPM.mk (t := zm_ring S (g 5) (nI j)) (r := (-1000000004)) (S' := S) (fd' := zFd (g 5) 3) (by unfold zm_ring; rw [if_pos c7, zc_nI (show j < 2147483648 by omega), ← hke, hbb]) G (rfl))
          · have hbk := zRb_lt S j k b hbb
            have hl : lv_has ls 7 [(0, .ref (a 0)), (1, .int (nI j)), (2, .int (nI b)), (3, .int ((zRb S j k).2)), (4, .int (nI k))] := by
              rw [show nI b = zo (zRb S j k).1 from (by rw [hbb]; rfl)]; exact hl
            refine lv_iload_n hx hb dX6_ring_123 rfl (lv_at hl 2 rfl) ?_
            refine lv_if_ge (tgt := 136) hx hb dX6_ring_124 (by decide) (fun c124 => ?_) (fun c124 => absurd (nI_pos' (by omega)) c124)
            refine lv_iload_n hx hb dX6_ring_136 rfl (lv_at hl 2 rfl) ?_
            exact zFG.iret hx hb hr hlocks hQ hw rfl dX6_ring_137 (zPM.mk (t := zm_ring S (g 5) (nI j)) (r := nI b) (S' := S) (fd' := g 5) (by unfold zm_ring; rw [if_pos c7, zc_nI (show j < 2147483648 by omega), ← hke, hbb]) G (congrArg (fun z => zMW x a q z nu _) (zG2 g G)))
        · have hkn : k < zN S := zkn hz0 (by omega) hk c32
          refine lv_aload_n hx hb dX6_ring_35 rfl (lv_at hl 0 rfl) ?_
          refine lv_iload hx hb dX6_ring_36 (lv_at hl 4 rfl) ?_
          refine lv_iconst (v := 5) hx hb dX6_ring_38 (by decide) ?_
          refine zcVwi (r := S 8 k) hx hb hml hown hts hl.1 hK hE hA lkX6_74 (c_X6_its x a q (zV g 4 G) nu S k 5 (by omega) (by omega)) ⟨Nat.le_of_ble_eq_true rfl, Nat.le_of_ble_eq_true rfl⟩ ⟨Nat.zero_le _, Nat.zero_le _⟩ hw 0 4 rfl rfl rfl rfl (Nat.le_of_ble_eq_true rfl) dX6_ring_39 (fun H locs hw => ?_)
          have hw : zHw x A s.heap (zMW x a q (zV g 4 G) nu (zflat S)) H locs := hw
          refine lv_if_ne (tgt := 117) hx hb dX6_ring_42 (by decide) (fun c42 => ?_) (fun c42 => ?_)
          · have hrb : zRb S j (k + 1) = _ := zRb_neg (fun h => c42 h.1)
            have hl : lv_has ls 7 [(0, .ref (a 0)), (1, .int (nI j)), (2, .int (zo (zRb S j (k + 1)).1)), (3, .int ((zRb S j k).2)), (4, .int (nI k))] := by
              rw [show zo (zRb S j (k + 1)).1 = zo (zRb S j k).1 from (by first | (rw [hrb]; done) | (rw [hrb]; rfl) | (rw [hrb, hbb]; rfl))]; exact hl
            have hl : lv_has ls 7 [(0, .ref (a 0)), (1, .int (nI j)), (2, .int (zo (zRb S j (k + 1)).1)), (3, .int ((zRb S j (k + 1)).2)), (4, .int (nI k))] := by
              rw [show (zRb S j (k + 1)).2 = (zRb S j k).2 from (by rw [hrb])]; exact hl
            refine lv_iinc (v := nI (k + 1)) (lv' := [(4, .int (nI (k + 1))), (0, .ref (a 0)), (1, .int (nI j)), (2, .int (zo (zRb S j (k + 1)).1)), (3, .int ((zRb S j (k + 1)).2))]) hx hb dX6_ring_117 hl (k := 4) rfl (nI_1 k) (by decide) rfl (fun ls hl => ?_)
            refine lv_goto (tgt := 24) hx hb dX6_ring_120 (by decide) ?_
            exact ih24 (k + 1) G (by omega) (by omega) _ _ _ hw (lv_sub hl [1, 2, 3, 4, 0] rfl)
          · refine lv_aload_n hx hb dX6_ring_45 rfl (lv_at hl 0 rfl) ?_
            refine gfX6_7 hx hb hown hts hK hw 0 rfl rfl dX6_ring_46 ?_
            refine lv_iload hx hb dX6_ring_49 (lv_at hl 4 rfl) ?_
            refine lv_iconst (v := 5) hx hb dX6_ring_51 (by decide) ?_
            refine zcSwi (r := nI (19 + 6 * k + 5)) hx hb hml hown hts hl.1 hK hE hA lkX6_52 (c_X6_spotOf x (zMW x a q (zV g 4 G) nu (zflat S)) k 5) ⟨Nat.le_of_ble_eq_true rfl, Nat.le_of_ble_eq_true rfl⟩ ⟨Nat.zero_le _, Nat.zero_le _⟩ hw rfl rfl (Nat.le_of_ble_eq_true rfl) dX6_ring_52 (fun H locs hw => ?_)
            have hw : zHw x A s.heap (zMW x a q (zV g 4 G) nu (zflat S)) H locs := hw
            refine lv_iconst (v := 1) hx hb dX6_ring_55 (by decide) ?_
            refine zias2 (f' := zflat (zU S 8 k 1)) hx hb hK hw 1 0 (19 + 6 * k + 5) rfl rfl rfl (by omega) (by decide) dX6_ring_56 (zflat_uit S _ (by omega)) (fun H locs hw => ?_)
            have hw : zHw x A s.heap (zMW x a q (zV g 4 G) nu (zflat (zU S 8 k 1))) H locs := hw
            refine lv_aload_n hx hb dX6_ring_57 rfl (lv_at hl 0 rfl) ?_
            refine lv_iload_n hx hb dX6_ring_58 rfl (lv_at hl 1 rfl) ?_
            refine zcVwi (r := zWr (zGo j (zU S 8 k 1))) hx hb hml hown hts hl.1 hK hE hA lkX6_171 (c_X6_worseIn x a q (zV g 4 G) nu (zU S 8 k 1) j (hI.u (Or.inr ⟨1, (show 1 ≤ 1 by decide), rfl⟩)) (by omega)) ⟨Nat.le_of_ble_eq_true rfl, Nat.le_of_ble_eq_true rfl⟩ ⟨Nat.zero_le _, Nat.zero_le _⟩ hw 0 4 rfl rfl rfl rfl (Nat.le_of_ble_eq_true rfl) dX6_ring_59 (fun H locs hw => ?_)
            have hw : zHw x A s.heap (zMW x a q (zV (zV g 4 G) 4 (zflat (zU S 8 k 1))) nu (zflat (zU S 8 k 1))) H locs := hw
            have hw : zHw x A s.heap (zMW x a q (zV g 4 (zflat (zU S 8 k 1))) nu (zflat (zU S 8 k 1))) H locs := hw.re (congrArg (fun z => zMW x a q z nu _) (zV_V _ _ _ _))
            refine lv_istore (lv' := [(5, .int (zWr (zGo j (zU S 8 k 1)))), (0, .ref (a 0)), (1, .int (nI j)), (2, .int (zo (zRb S j k).1)), (3, .int ((zRb S j k).2)), (4, .int (nI k))]) hx hb dX6_ring_62 hl (by decide) rfl (fun ls hl => ?_)
            refine lv_aload_n hx hb dX6_ring_64 rfl (lv_at hl 1 rfl) ?_
            refine gfX6_7 hx hb hown hts hK hw 0 rfl rfl dX6_ring_65 ?_
            refine lv_iload hx hb dX6_ring_68 (lv_at hl 5 rfl) ?_
            refine lv_iconst (v := 5) hx hb dX6_ring_70 (by decide) ?_
            refine zcSwi (r := nI (19 + 6 * k + 5)) hx hb hml hown hts hl.1 hK hE hA lkX6_52 (c_X6_spotOf x (zMW x a q (zV g 4 (zflat (zU S 8 k 1))) nu (zflat (zU S 8 k 1))) k 5) ⟨Nat.le_of_ble_eq_true rfl, Nat.le_of_ble_eq_true rfl⟩ ⟨Nat.zero_le _, Nat.zero_le _⟩ hw rfl rfl (Nat.le_of_ble_eq_true rfl) dX6_ring_71 (fun H locs hw => ?_)
            have hw : zHw x A s.heap (zMW x a q (zV g 4 (zflat (zU S 8 k 1))) nu (zflat (zU S 8 k 1))) H locs := hw
            refine lv_iconst (v := 0) hx hb dX6_ring_74 (by decide) ?_
            refine zias2 (f' := zflat (zU (zU S 8 k 1) 8 k 0)) hx hb hK hw 1 0 (19 + 6 * k + 5) rfl rfl rfl (by omega) (by decide) dX6_ring_75 (zflat_uit (zU S 8 k 1) _ (by omega)) (fun H locs hw => ?_)
            have hw : zHw x A s.heap (zMW x a q (zV g 4 (zflat (zU S 8 k 1))) nu (zflat (zU (zU S 8 k 1) 8 k 0))) H locs := hw
            have hw : zHw x A s.heap (zMW x a q (zV g 4 (zflat (zU S 8 k 1))) nu (zflat S)) H locs := hw.re (congrArg (fun z => zMW x a q _ nu (zflat z)) (((by rw [c42]) : zU (zU S 8 k 1) 8 k 0 = zU (zU S 8 k 1) 8 k (S 8 k)).trans (zU_back S 8 k 1)))
            rcases hbb : (zRb S j k).1 with _ | b
            · have hl : lv_has ls 7 [(5, .int (zWr (zGo j (zU S 8 k 1)))), (0, .ref (a 0)), (1, .int (nI j)), (2, .int (-1)), (3, .int ((zRb S j k).2)), (4, .int (nI k))] := by
                rw [show (-1) = zo (zRb S j k).1 from (by rw [hbb]; rfl)]; exact hl
              refine lv_iload_n hx hb dX6_ring_76 rfl (lv_at hl 3 rfl) ?_
              refine lv_if_lt (tgt := 86) hx hb dX6_ring_77 (by decide) (fun c77 => ?_) (fun c77 => absurd (by decide) c77)
              refine lv_iconst (v := 1) hx hb dX6_ring_86 (by decide) ?_
              refine lv_goto (tgt := 91) hx hb dX6_ring_87 (by decide) ?_
              refine lv_istore (lv' := [(6, .int 1), (5, .int (zWr (zGo j (zU S 8 k 1)))), (0, .ref (a 0)), (1, .int (nI j)), (2, .int (-1)), (3, .int ((zRb S j k).2)), (4, .int (nI k))]) hx hb dX6_ring_91 hl (by decide) rfl (fun ls hl => ?_)
              refine lv_iload hx hb dX6_ring_93 (lv_at hl 0 rfl) ?_
              refine lv_if_eq (tgt := 103) hx hb dX6_ring_95 (by decide) (fun c95 => absurd c95 (by decide)) (fun c95 => ?_)
              refine lv_iload hx hb dX6_ring_98 (lv_at hl 6 rfl) ?_
              refine lv_goto (tgt := 104) hx hb dX6_ring_100 (by decide) ?_
              refine lv_istore_n (lv' := [(2, .int (nI k)), (6, .int 1), (5, .int (zWr (zGo j (zU S 8 k 1)))), (0, .ref (a 0)), (1, .int (nI j)), (3, .int ((zRb S j k).2)), (4, .int (nI k))]) hx hb dX6_ring_104 rfl hl (by decide) rfl (fun ls hl => ?_)
              refine lv_iload hx hb dX6_ring_105 (lv_at hl 1 rfl) ?_
              refine lv_if_eq (tgt := 115) hx hb dX6_ring_107 (by decide) (fun c107 => absurd c107 (by decide)) (fun c107 => ?_)
              refine lv_iload hx hb dX6_ring_110 (lv_at hl 2 rfl) ?_
              refine lv_goto (tgt := 116) hx hb dX6_ring_112 (by decide) ?_
              refine lv_istore_n (lv' := [(3, .int (zWr (zGo j (zU S 8 k 1)))), (2, .int (nI k)), (6, .int 1), (5, .int (zWr (zGo j (zU S 8 k 1)))), (0, .ref (a 0)), (1, .int (nI j)), (4, .int (nI k))]) hx hb dX6_ring_116 rfl hl (by decide) rfl (fun ls hl => ?_)
              have hrb : zRb S j (k + 1) = _ := zRb_pos c42 (Or.inl hbb)
              have hl : lv_has ls 7 [(3, .int (zWr (zGo j (zU S 8 k 1)))), (2, .int (zo (zRb S j (k + 1)).1)), (6, .int 1), (5, .int (zWr (zGo j (zU S 8 k 1)))), (0, .ref (a 0)), (1, .int (nI j)), (4, .int (nI k))] := by
                rw [show zo (zRb S j (k + 1)).1 = nI k from (by first | (rw [hrb]; done) | (rw [hrb]; rfl) | (rw [hrb, hbb]; rfl))]; exact hl
              have hl : lv_has ls 7 [(3, .int ((zRb S j (k + 1)).2)), (2, .int (zo (zRb S j (k + 1)).1)), (6, .int 1), (5, .int (zWr (zGo j (zU S 8 k 1)))), (0, .ref (a 0)), (1, .int (nI j)), (4, .int (nI k))] := by
                rw [show (zRb S j (k + 1)).2 = zWr (zGo j (zU S 8 k 1)) from (by rw [hrb])]; exact hl
              refine lv_iinc (v := nI (k + 1)) (lv' := [(4, .int (nI (k + 1))), (3, .int ((zRb S j (k + 1)).2)), (2, .int (zo (zRb S j (k + 1)).1)), (6, .int 1), (5, .int (zWr (zGo j (zU S 8 k 1)))), (0, .ref (a 0)), (1, .int (nI j))]) hx hb dX6_ring_117 hl (k := 6) rfl (nI_1 k) (by decide) rfl (fun ls hl => ?_)
              refine lv_goto (tgt := 24) hx hb dX6_ring_120 (by decide) ?_
              exact ih24 (k + 1) (zflat (zU S 8 k 1)) (by omega) (by omega) _ _ _ hw (lv_sub hl [5, 6, 2, 1, 0] rfl)
            · have hbk := zRb_lt S j k b hbb
              have hl : lv_has ls 7 [(5, .int (zWr (zGo j (zU S 8 k 1)))), (0, .ref (a 0)), (1, .int (nI j)), (2, .int (nI b)), (3, .int ((zRb S j k).2)), (4, .int (nI k))] := by
                rw [show nI b = zo (zRb S j k).1 from (by rw [hbb]; rfl)]; exact hl
              refine lv_iload_n hx hb dX6_ring_76 rfl (lv_at hl 3 rfl) ?_
              refine lv_if_lt (tgt := 86) hx hb dX6_ring_77 (by decide) (fun c77 => absurd c77 (nI_pos (by omega))) (fun c77 => ?_)
              refine lv_iload hx hb dX6_ring_80 (lv_at hl 0 rfl) ?_
              refine lv_iload_n hx hb dX6_ring_82 rfl (lv_at hl 4 rfl) ?_
              refine lv_icmp_ge (tgt := 90) hx hb dX6_ring_83 (by decide) (fun c83 => ?_) (fun c83 => ?_)
              · refine lv_iconst (v := 0) hx hb dX6_ring_90 (by decide) ?_
                refine lv_istore (lv' := [(6, .int 0), (5, .int (zWr (zGo j (zU S 8 k 1)))), (0, .ref (a 0)), (1, .int (nI j)), (2, .int (nI b)), (3, .int ((zRb S j k).2)), (4, .int (nI k))]) hx hb dX6_ring_91 hl (by decide) rfl (fun ls hl => ?_)
                refine lv_iload hx hb dX6_ring_93 (lv_at hl 0 rfl) ?_
                refine lv_if_eq (tgt := 103) hx hb dX6_ring_95 (by decide) (fun c95 => ?_) (fun c95 => absurd (by decide) c95)
                refine lv_iload_n hx hb dX6_ring_103 rfl (lv_at hl 4 rfl) ?_
                refine lv_istore_n (lv' := [(2, .int (nI b)), (6, .int 0), (5, .int (zWr (zGo j (zU S 8 k 1)))), (0, .ref (a 0)), (1, .int (nI j)), (3, .int ((zRb S j k).2)), (4, .int (nI k))]) hx hb dX6_ring_104 rfl hl (by decide) rfl (fun ls hl => ?_)
                refine lv_iload hx hb dX6_ring_105 (lv_at hl 1 rfl) ?_
                refine lv_if_eq (tgt := 115) hx hb dX6_ring_107 (by decide) (fun c107 => ?_) (fun c107 => absurd (by decide) c107)
                refine lv_iload_n hx hb dX6_ring_115 rfl (lv_at hl 5 rfl) ?_
                refine lv_istore_n (lv' := [(3, .int ((zRb S j k).2)), (2, .int (nI b)), (6, .int 0), (5, .int (zWr (zGo j (zU S 8 k 1)))), (0, .ref (a 0)), (1, .int (nI j)), (4, .int (nI k))]) hx hb dX6_ring_116 rfl hl (by decide) rfl (fun ls hl => ?_)
                have hrb : zRb S j (k + 1) = _ := zRb_neg2 hbb (Int32.not_lt.mpr c83)
                have hl : lv_has ls 7 [(3, .int ((zRb S j k).2)), (2, .int (zo (zRb S j (k + 1)).1)), (6, .int 0), (5, .int (zWr (zGo j (zU S 8 k 1)))), (0, .ref (a 0)), (1, .int (nI j)), (4, .int (nI k))] := by
                  rw [show zo (zRb S j (k + 1)).1 = nI b from (by first | (rw [hrb]; done) | (rw [hrb]; rfl) | (rw [hrb, hbb]; rfl))]; exact hl
                have hl : lv_has ls 7 [(3, .int ((zRb S j (k + 1)).2)), (2, .int (zo (zRb S j (k + 1)).1)), (6, .int 0), (5, .int (zWr (zGo j (zU S 8 k 1)))), (0, .ref (a 0)), (1, .int (nI j)), (4, .int (nI k))] := by
                  rw [show (zRb S j (k + 1)).2 = (zRb S j k).2 from (by rw [hrb])]; exact hl
                refine lv_iinc (v := nI (k + 1)) (lv' := [(4, .int (nI (k + 1))), (3, .int ((zRb S j (k + 1)).2)), (2, .int (zo (zRb S j (k + 1)).1)), (6, .int 0), (5, .int (zWr (zGo j (zU S 8 k 1)))), (0, .ref (a 0)), (1, .int (nI j))]) hx hb dX6_ring_117 hl (k := 6) rfl (nI_1 k) (by decide) rfl (fun ls hl => ?_)
                refine lv_goto (tgt := 24) hx hb dX6_ring_120 (by decide) ?_
                exact ih24 (k + 1) (zflat (zU S 8 k 1)) (by omega) (by omega) _ _ _ hw (lv_sub hl [5, 6, 2, 1, 0] rfl)
              · refine lv_iconst (v := 1) hx hb dX6_ring_86 (by decide) ?_
                refine lv_goto (tgt := 91) hx hb dX6_ring_87 (by decide) ?_
                refine lv_istore (lv' := [(6, .int 1), (5, .int (zWr (zGo j (zU S 8 k 1)))), (0, .ref (a 0)), (1, .int (nI j)), (2, .int (nI b)), (3, .int ((zRb S j k).2)), (4, .int (nI k))]) hx hb dX6_ring_91 hl (by decide) rfl (fun ls hl => ?_)
                refine lv_iload hx hb dX6_ring_93 (lv_at hl 0 rfl) ?_
                refine lv_if_eq (tgt := 103) hx hb dX6_ring_95 (by decide) (fun c95 => absurd c95 (by decide)) (fun c95 => ?_)
                refine lv_iload hx hb dX6_ring_98 (lv_at hl 6 rfl) ?_
                refine lv_goto (tgt := 104) hx hb dX6_ring_100 (by decide) ?_
                refine lv_istore_n (lv' := [(2, .int (nI k)), (6, .int 1), (5, .int (zWr (zGo j (zU S 8 k 1)))), (0, .ref (a 0)), (1, .int (nI j)), (3, .int ((zRb S j k).2)), (4, .int (nI k))]) hx hb dX6_ring_104 rfl hl (by decide) rfl (fun ls hl => ?_)
                refine lv_iload hx hb dX6_ring_105 (lv_at hl 1 rfl) ?_
                refine lv_if_eq (tgt := 115) hx hb dX6_ring_107 (by decide) (fun c107 => absurd c107 (by decide)) (fun c107 => ?_)
                refine lv_iload hx hb dX6_ring_110 (lv_at hl 2 rfl) ?_
                refine lv_goto (tgt := 116) hx hb dX6_ring_112 (by decide) ?_
                refine lv_istore_n (lv' := [(3, .int (zWr (zGo j (zU S 8 k 1)))), (2, .int (nI k)), (6, .int 1), (5, .int (zWr (zGo j (zU S 8 k 1)))), (0, .ref (a 0)), (1, .int (nI j)), (4, .int (nI k))]) hx hb dX6_ring_116 rfl hl (by decide) rfl (fun ls hl => ?_)
                have hrb : zRb S j (k + 1) = _ := zRb_pos c42 (Or.inr (Int32.not_le.mp c83))
                have hl : lv_has ls 7 [(3, .int (zWr (zGo j (zU S 8 k 1)))), (2, .int (zo (zRb S j (k + 1)).1)), (6, .int 1), (5, .int (zWr (zGo j (zU S 8 k 1)))), (0, .ref (a 0)), (1, .int (nI j)), (4, .int (nI k))] := by
                  rw [show zo (zRb S j (k + 1)).1 = nI k from (by first | (rw [hrb]; done) | (rw [hrb]; rfl) | (rw [hrb, hbb]; rfl))]; exact hl
                have hl : lv_has ls 7 [(3, .int ((zRb S j (k + 1)).2)), (2, .int (zo (zRb S j (k + 1)).1)), (6, .int 1), (5, .int (zWr (zGo j (zU S 8 k 1)))), (0, .ref (a 0)), (1, .int (nI j)), (4, .int (nI k))] := by
                  rw [show (zRb S j (k + 1)).2 = zWr (zGo j (zU S 8 k 1)) from (by rw [hrb])]; exact hl
                refine lv_iinc (v := nI (k + 1)) (lv' := [(4, .int (nI (k + 1))), (3, .int ((zRb S j (k + 1)).2)), (2, .int (zo (zRb S j (k + 1)).1)), (6, .int 1), (5, .int (zWr (zGo j (zU S 8 k 1)))), (0, .ref (a 0)), (1, .int (nI j))]) hx hb dX6_ring_117 hl (k := 6) rfl (nI_1 k) (by decide) rfl (fun ls hl => ?_)
                refine lv_goto (tgt := 24) hx hb dX6_ring_120 (by decide) ?_
                exact ih24 (k + 1) (zflat (zU S 8 k 1)) (by omega) (by omega) _ _ _ hw (lv_sub hl [5, 6, 2, 1, 0] rfl)
    exact loop24 (_ + 1) 0 (g 4) (Nat.lt_succ_self _) (Nat.zero_le _) _ _ _ (hw.re (by rw [zV_self])) (lv_sub hl [3, 4, 2, 1, 0] rfl)
  · have c7 := zb_0.mp c7
    refine lv_aload_n hx hb dX6_ring_10 rfl (lv_at hl 0 rfl) ?_
    refine lv_ldc (v := (-1000000001)) hx hb hown (hts _ ckX6_45) dX6_ring_11 ?_
    refine zcVwi (r := (-1000000001)) hx hb hml hown hts hl.1 hK hE hA lkX6_64 (c_X6_finds x a q g nu (zflat S) (-1000000001) 0 (by decide) (by decide)) ⟨Nat.le_of_ble_eq_true rfl, Nat.le_of_ble_eq_true rfl⟩ ⟨Nat.zero_le _, Nat.zero_le _⟩ hw 0 4 rfl rfl rfl rfl (Nat.le_of_ble_eq_true rfl) dX6_ring_13 (fun H locs hw => ?_)
    have hw : zHw x A s.heap (zMW x a q (zU g 5 0 (g 5 0 + 1)) nu (zflat S)) H locs := hw
    exact zFG.iret hx hb hr hlocks hQ hw rfl dX6_ring_16 (zPM.mk (t := zm_ring S (g 5) n) (r := (-1000000001)) (S' := S) (fd' := zFd (g 5) 0) (by unfold zm_ring; rw [if_neg c7]; rfl) (g 4) (congrArg (fun z => zMW x a q z nu _) (zG1 g 0)))

set_option maxHeartbeats 4000000 in
set_option maxRecDepth 100000 in
theorem c_X6_leastBy_4 (x : zX) (a : Nat → Nat) (q : Nat → Int32) (g : zT) (nu : Nat → Nat → Int64) (S : zT) (n : Nat) (v : Int32) (hI : zInv S) (hn : n < 2147483648) : zFG x mX6_leastBy 9 [.ref (a 0), .int 4, .int 6, .int (nI n), .int v] (zMW x a q g nu (zflat S)) (zPM x a q g nu (zm_lb 4 6 S (g 5) n v)) := by
  refine zFG.start RX6 cX6_leastBy 8 (some .int) rfl rfl (by decide +kernel) (Nat.le_of_ble_eq_true rfl) ?_
  intro p e s m ar below meth c ls A Q hx hb hr hml hown hts hlocks hK hE hA hQ hl hw
  have hl : lv_has ls 8 [(0, .ref (a 0)), (1, .int 4), (2, .int 6), (3, .int (nI n)), (4, .int v)] := hl
  have hw : zHw x A s.heap (zMW x a q g nu (zflat S)) s.heap [] := hw
  refine lv_aload_n hx hb dX6_leastBy_0 rfl (lv_at hl 0 rfl) ?_
  refine gfX6_7 hx hb hown hts hK hw 0 rfl rfl dX6_leastBy_1 ?_
  refine lv_iload_n hx hb dX6_leastBy_4 rfl (lv_at hl 1 rfl) ?_
  refine zial2 (v := S 0 4) hx hb hK hw 1 0 4 rfl rfl rfl (by decide) (by decide) dX6_leastBy_5 rfl ?_
  refine lv_istore (lv' := [(5, .int (S 0 4)), (0, .ref (a 0)), (1, .int 4), (2, .int 6), (3, .int (nI n)), (4, .int v)]) hx hb dX6_leastBy_6 hl (by decide) rfl (fun ls hl => ?_)
  refine lv_iconst (v := (-1)) hx hb dX6_leastBy_8 (by decide) ?_
  refine lv_istore (lv' := [(6, .int (-1)), (5, .int (S 0 4)), (0, .ref (a 0)), (1, .int 4), (2, .int 6), (3, .int (nI n)), (4, .int v)]) hx hb dX6_leastBy_9 hl (by decide) rfl (fun ls hl => ?_)
  refine lv_iconst (v := 0) hx hb dX6_leastBy_11 (by decide) ?_
  refine lv_istore (lv' := [(7, .int 0), (6, .int (-1)), (5, .int (S 0 4)), (0, .ref (a 0)), (1, .int 4), (2, .int 6), (3, .int (nI n)), (4, .int v)]) hx hb dX6_leastBy_12 hl (by decide) rfl (fun ls hl => ?_)
  have loop14 : ∀ (dd : Nat) (k : Nat) (T : zT) (G : Nat → Int32), 7 - k < dd → (hk : k ≤ 7) → (hT : ∀ w, zU T 0 4 w = zU S 0 4 w) → (e1 : zF1 (zpL S 4 n v) (7 - k) k = zF1 (zpL S 4 n v) 7 0) → ∀ (H : Heap) (locs : List Loc) (ls : Array Slot), zHw x A s.heap (zMW x a q (zV g 4 G) nu (zflat T)) H locs → lv_has ls 8 [(0, .ref (a 0)), (1, .int 4), (2, .int 6), (3, .int (nI n)), (4, .int v), (5, .int (S 0 4)), (6, .int (-1)), (7, .int (nI k))] → W p x.1 e (zRM 9) s m ar below meth c H locs 0 0 Q (F0 m 14 ls []) := by
    intro dd
    induction dd with
    | zero => intro k T G hm; exact absurd hm (Nat.not_lt_zero _)
    | succ dd ih14 =>
      intro k T G hm hk hT e1 H locs ls hw hl
      refine lv_iload hx hb dX6_leastBy_14 (lv_at hl 7 rfl) ?_
      refine lv_iload_n hx hb dX6_leastBy_16 rfl (lv_at hl 2 rfl) ?_
      refine lv_icmp_gt (tgt := 57) hx hb dX6_leastBy_17 (by decide) (fun c17 => ?_) (fun c17 => ?_)
      · refine lv_aload_n hx hb dX6_leastBy_57 rfl (lv_at hl 0 rfl) ?_
        refine gfX6_7 hx hb hown hts hK hw 0 rfl rfl dX6_leastBy_58 ?_
        refine lv_iload_n hx hb dX6_leastBy_61 rfl (lv_at hl 1 rfl) ?_
        refine lv_iload hx hb dX6_leastBy_62 (lv_at hl 5 rfl) ?_
        refine zias2 (f' := zflat (zU T 0 4 (S 0 4))) hx hb hK hw 1 0 4 rfl rfl rfl (by decide) (by decide) dX6_leastBy_64 (zflat_usc T _ (by decide)) (fun H locs hw => ?_)
        have hw : zHw x A s.heap (zMW x a q (zV g 4 G) nu (zflat (zU T 0 4 (S 0 4)))) H locs := hw
        have hw : zHw x A s.heap (zMW x a q (zV g 4 G) nu (zflat S)) H locs := hw.re (congrArg (fun z => zMW x a q _ nu (zflat z)) ((hT (S 0 4)).trans (zU_self S 0 4)))
        refine lv_iload hx hb dX6_leastBy_65 (lv_at hl 6 rfl) ?_
        refine lv_if_ge (tgt := 79) hx hb dX6_leastBy_67 (by decide) (fun c67 => absurd c67 (by decide)) (fun c67 => ?_)
        refine lv_aload_n hx hb dX6_leastBy_70 rfl (lv_at hl 0 rfl) ?_
        refine lv_ldc (v := (-1000000004)) hx hb hown (hts _ ckX6_142) dX6_leastBy_71 ?_
        refine zcVwi (r := (-1000000004)) hx hb hml hown hts hl.1 hK hE hA lkX6_64 (c_X6_finds x a q (zV g 4 G) nu (zflat S) (-1000000004) 3 (by decide) (by decide)) ⟨Nat.le_of_ble_eq_true rfl, Nat.le_of_ble_eq_true rfl⟩ ⟨Nat.zero_le _, Nat.zero_le _⟩ hw 0 4 rfl rfl rfl rfl (Nat.le_of_ble_eq_true rfl) dX6_leastBy_73 (fun H locs hw => ?_)
        have hw : zHw x A s.heap (zMW x a q (zU (zV g 4 G) 5 3 ((zV g 4 G) 5 3 + 1)) nu (zflat S)) H locs := hw
        refine lv_goto (tgt := 81) hx hb dX6_leastBy_76 (by decide) ?_
        exact zFG.iret hx hb hr hlocks hQ hw rfl dX6_leastBy_81 (zPM.mk (t := zm_lb 4 6 S (g 5) n v) (r := (-1000000004)) (S' := S) (fd' := zFd (g 5) 3) (by have e5 : k = 7 := zgt hk c17; unfold zm_lb; rw [← e1, e5]; rfl) G (rfl))
      · have hkn : k ≤ 6 := (nI_leI (b := 6) (by omega) (by decide)).mp (Int32.not_lt.mp c17)
        have hd : 7 - k = (7 - (k + 1)) + 1 := by omega
        refine lv_iload hx hb dX6_leastBy_20 (lv_at hl 6 rfl) ?_
        refine lv_if_ge (tgt := 57) hx hb dX6_leastBy_22 (by decide) (fun c22 => absurd c22 (by decide)) (fun c22 => ?_)
        refine lv_aload_n hx hb dX6_leastBy_25 rfl (lv_at hl 0 rfl) ?_
        refine gfX6_7 hx hb hown hts hK hw 0 rfl rfl dX6_leastBy_26 ?_
        refine lv_iload_n hx hb dX6_leastBy_29 rfl (lv_at hl 1 rfl) ?_
        refine lv_iload hx hb dX6_leastBy_30 (lv_at hl 7 rfl) ?_
        refine zias2 (f' := zflat (zU T 0 4 (nI k))) hx hb hK hw 1 0 4 rfl rfl rfl (by decide) (by decide) dX6_leastBy_32 (zflat_usc T _ (by decide)) (fun H locs hw => ?_)
        have hw : zHw x A s.heap (zMW x a q (zV g 4 G) nu (zflat (zU T 0 4 (nI k)))) H locs := hw
        have hw : zHw x A s.heap (zMW x a q (zV g 4 G) nu (zflat (zU S 0 4 (nI k)))) H locs := hw.re (congrArg (fun z => zMW x a q _ nu (zflat z)) (hT (nI k)))
        refine lv_aload_n hx hb dX6_leastBy_33 rfl (lv_at hl 0 rfl) ?_
        refine lv_iload_n hx hb dX6_leastBy_34 rfl (lv_at hl 3 rfl) ?_
        refine zcVwi (r := zWr (zGo n (zU S 0 4 (nI k)))) hx hb hml hown hts hl.1 hK hE hA lkX6_171 (c_X6_worseIn x a q (zV g 4 G) nu (zU S 0 4 (nI k)) n (hI.u (Or.inr ⟨k, (show k ≤ 6 by omega), rfl⟩)) (by omega)) ⟨Nat.le_of_ble_eq_true rfl, Nat.le_of_ble_eq_true rfl⟩ ⟨Nat.zero_le _, Nat.zero_le _⟩ hw 0 4 rfl rfl rfl rfl (Nat.le_of_ble_eq_true rfl) dX6_leastBy_35 (fun H locs hw => ?_)
        have hw : zHw x A s.heap (zMW x a q (zV (zV g 4 G) 4 (zflat (zU S 0 4 (nI k)))) nu (zflat (zU S 0 4 (nI k)))) H locs := hw
        have hw : zHw x A s.heap (zMW x a q (zV g 4 (zflat (zU S 0 4 (nI k)))) nu (zflat (zU S 0 4 (nI k)))) H locs := hw.re (congrArg (fun z => zMW x a q z nu _) (zV_V _ _ _ _))
        refine lv_iload hx hb dX6_leastBy_38 (lv_at hl 4 rfl) ?_
        refine lv_icmp_gt (tgt := 48) hx hb dX6_leastBy_40 (by decide) (fun c40 => ?_) (fun c40 => ?_)
        · refine lv_iconst (v := (-1)) hx hb dX6_leastBy_48 (by decide) ?_
          refine lv_istore (lv' := [(6, .int (-1)), (0, .ref (a 0)), (1, .int 4), (2, .int 6), (3, .int (nI n)), (4, .int v), (5, .int (S 0 4)), (7, .int (nI k))]) hx hb dX6_leastBy_49 hl (by decide) rfl (fun ls hl => ?_)
          refine lv_iinc (v := nI (k + 1)) (lv' := [(7, .int (nI (k + 1))), (6, .int (-1)), (0, .ref (a 0)), (1, .int 4), (2, .int 6), (3, .int (nI n)), (4, .int v), (5, .int (S 0 4))]) hx hb dX6_leastBy_51 hl (k := 7) rfl (nI_1 k) (by decide) rfl (fun ls hl => ?_)
          refine lv_goto (tgt := 14) hx hb dX6_leastBy_54 (by decide) ?_
          exact ih14 (k + 1) (zU S 0 4 (nI k)) (zflat (zU S 0 4 (nI k))) (by omega) (by omega) (fun w => zU_U S 0 4 (nI k) w) (by rw [← e1, hd, zF1_f (fun e => absurd (of_decide_eq_true e) (Int32.not_le.mpr c40))]) _ _ _ hw (lv_sub hl [2, 3, 4, 5, 6, 7, 1, 0] rfl)
        · refine lv_iload hx hb dX6_leastBy_43 (lv_at hl 7 rfl) ?_
          refine lv_goto (tgt := 49) hx hb dX6_leastBy_45 (by decide) ?_
          refine lv_istore (lv' := [(6, .int (nI k)), (0, .ref (a 0)), (1, .int 4), (2, .int 6), (3, .int (nI n)), (4, .int v), (5, .int (S 0 4)), (7, .int (nI k))]) hx hb dX6_leastBy_49 hl (by decide) rfl (fun ls hl => ?_)
          refine lv_iinc (v := nI (k + 1)) (lv' := [(7, .int (nI (k + 1))), (6, .int (nI k)), (0, .ref (a 0)), (1, .int 4), (2, .int 6), (3, .int (nI n)), (4, .int v), (5, .int (S 0 4))]) hx hb dX6_leastBy_51 hl (k := 7) rfl (nI_1 k) (by decide) rfl (fun ls hl => ?_)
          refine lv_goto (tgt := 14) hx hb dX6_leastBy_54 (by decide) ?_
          refine lv_iload hx hb dX6_leastBy_14 (lv_at hl 0 rfl) ?_
          refine lv_iload_n hx hb dX6_leastBy_16 rfl (lv_at hl 4 rfl) ?_
          refine lv_icmp_gt (tgt := 57) hx hb dX6_leastBy_17 (by decide) (fun c17 => ?_) (fun c17 => ?_)
          · refine lv_aload_n hx hb dX6_leastBy_57 rfl (lv_at hl 2 rfl) ?_
            refine gfX6_7 hx hb hown hts hK hw 0 rfl rfl dX6_leastBy_58 ?_
            refine lv_iload_n hx hb dX6_leastBy_61 rfl (lv_at hl 3 rfl) ?_
            refine lv_iload hx hb dX6_leastBy_62 (lv_at hl 7 rfl) ?_
            refine zias2 (f' := zflat (zU (zU S 0 4 (nI k)) 0 4 (S 0 4))) hx hb hK hw 1 0 4 rfl rfl rfl (by decide) (by decide) dX6_leastBy_64 (zflat_usc (zU S 0 4 (nI k)) _ (by decide)) (fun H locs hw => ?_)
            have hw : zHw x A s.heap (zMW x a q (zV g 4 (zflat (zU S 0 4 (nI k)))) nu (zflat (zU (zU S 0 4 (nI k)) 0 4 (S 0 4)))) H locs := hw
            have hw : zHw x A s.heap (zMW x a q (zV g 4 (zflat (zU S 0 4 (nI k)))) nu (zflat S)) H locs := hw.re (congrArg (fun z => zMW x a q _ nu (zflat z)) ((zU_U S 0 4 (nI k) (S 0 4)).trans (zU_self S 0 4)))
            refine lv_iload hx hb dX6_leastBy_65 (lv_at hl 1 rfl) ?_
            refine lv_if_ge (tgt := 79) hx hb dX6_leastBy_67 (by decide) (fun c67 => ?_) (fun c67 => absurd (nI_pos' (by omega)) c67)
            refine lv_iload hx hb dX6_leastBy_79 (lv_at hl 1 rfl) ?_
            exact zFG.iret hx hb hr hlocks hQ hw rfl dX6_leastBy_81 (zPM.mk (t := zm_lb 4 6 S (g 5) n v) (r := nI k) (S' := S) (fd' := g 5) (by unfold zm_lb; rw [← e1, hd, zF1_t (decide_eq_true (Int32.not_lt.mp c40))]) (zflat (zU S 0 4 (nI k))) (congrArg (fun z => zMW x a q z nu _) (zG2 g (zflat (zU S 0 4 (nI k))))))
          · refine lv_iload hx hb dX6_leastBy_20 (lv_at hl 1 rfl) ?_
            refine lv_if_ge (tgt := 57) hx hb dX6_leastBy_22 (by decide) (fun c22 => ?_) (fun c22 => absurd (nI_pos' (by omega)) c22)
            refine lv_aload_n hx hb dX6_leastBy_57 rfl (lv_at hl 2 rfl) ?_
            refine gfX6_7 hx hb hown hts hK hw 0 rfl rfl dX6_leastBy_58 ?_
            refine lv_iload_n hx hb dX6_leastBy_61 rfl (lv_at hl 3 rfl) ?_
            refine lv_iload hx hb dX6_leastBy_62 (lv_at hl 7 rfl) ?_
            refine zias2 (f' := zflat (zU (zU S 0 4 (nI k)) 0 4 (S 0 4))) hx hb hK hw 1 0 4 rfl rfl rfl (by decide) (by decide) dX6_leastBy_64 (zflat_usc (zU S 0 4 (nI k)) _ (by decide)) (fun H locs hw => ?_)
            have hw : zHw x A s.heap (zMW x a q (zV g 4 (zflat (zU S 0 4 (nI k)))) nu (zflat (zU (zU S 0 4 (nI k)) 0 4 (S 0 4)))) H locs := hw
            have hw : zHw x A s.heap (zMW x a q (zV g 4 (zflat (zU S 0 4 (nI k)))) nu (zflat S)) H locs := hw.re (congrArg (fun z => zMW x a q _ nu (zflat z)) ((zU_U S 0 4 (nI k) (S 0 4)).trans (zU_self S 0 4)))
            refine lv_iload hx hb dX6_leastBy_65 (lv_at hl 1 rfl) ?_
            refine lv_if_ge (tgt := 79) hx hb dX6_leastBy_67 (by decide) (fun c67 => ?_) (fun c67 => absurd (nI_pos' (by omega)) c67)
            refine lv_iload hx hb dX6_leastBy_79 (lv_at hl 1 rfl) ?_
            exact zFG.iret hx hb hr hlocks hQ hw rfl dX6_leastBy_81 (zPM.mk (t := zm_lb 4 6 S (g 5) n v) (r := nI k) (S' := S) (fd' := g 5) (by unfold zm_lb; rw [← e1, hd, zF1_t (decide_eq_true (Int32.not_lt.mp c40))]) (zflat (zU S 0 4 (nI k))) (congrArg (fun z => zMW x a q z nu _) (zG2 g (zflat (zU S 0 4 (nI k))))))
  exact loop14 (_ + 1) 0 S (g 4) (Nat.lt_succ_self _) (Nat.zero_le _) (fun _ => rfl) rfl _ _ _ (hw.re (by rw [zV_self])) (lv_sub hl [3, 4, 5, 6, 7, 2, 1, 0] rfl)

set_option maxHeartbeats 4000000 in
set_option maxRecDepth 100000 in
theorem c_X6_leastBy_2 (x : zX) (a : Nat → Nat) (q : Nat → Int32) (g : zT) (nu : Nat → Nat → Int64) (S : zT) (n : Nat) (v : Int32) (hI : zInv S) (hn : n < 2147483648) : zFG x mX6_leastBy 9 [.ref (a 0), .int 2, .int 999, .int (nI n), .int v] (zMW x a q g nu (zflat S)) (zPM x a q g nu (zm_lb 2 999 S (g 5) n v)) := by
  refine zFG.start RX6 cX6_leastBy 8 (some .int) rfl rfl (by decide +kernel) (Nat.le_of_ble_eq_true rfl) ?_
  intro p e s m ar below meth c ls A Q hx hb hr hml hown hts hlocks hK hE hA hQ hl hw
  have hl : lv_has ls 8 [(0, .ref (a 0)), (1, .int 2), (2, .int 999), (3, .int (nI n)), (4, .int v)] := hl
  have hw : zHw x A s.heap (zMW x a q g nu (zflat S)) s.heap [] := hw
  refine lv_aload_n hx hb dX6_leastBy_0 rfl (lv_at hl 0 rfl) ?_
  refine gfX6_7 hx hb hown hts hK hw 0 rfl rfl dX6_leastBy_1 ?_
  refine lv_iload_n hx hb dX6_leastBy_4 rfl (lv_at hl 1 rfl) ?_
  refine zial2 (v := S 0 2) hx hb hK hw 1 0 2 rfl rfl rfl (by decide) (by decide) dX6_leastBy_5 rfl ?_
  refine lv_istore (lv' := [(5, .int (S 0 2)), (0, .ref (a 0)), (1, .int 2), (2, .int 999), (3, .int (nI n)), (4, .int v)]) hx hb dX6_leastBy_6 hl (by decide) rfl (fun ls hl => ?_)
  refine lv_iconst (v := (-1)) hx hb dX6_leastBy_8 (by decide) ?_
  refine lv_istore (lv' := [(6, .int (-1)), (5, .int (S 0 2)), (0, .ref (a 0)), (1, .int 2), (2, .int 999), (3, .int (nI n)), (4, .int v)]) hx hb dX6_leastBy_9 hl (by decide) rfl (fun ls hl => ?_)
  refine lv_iconst (v := 0) hx hb dX6_leastBy_11 (by decide) ?_
  refine lv_istore (lv' := [(7, .int 0), (6, .int (-1)), (5, .int (S 0 2)), (0, .ref (a 0)), (1, .int 2), (2, .int 999), (3, .int (nI n)), (4, .int v)]) hx hb dX6_leastBy_12 hl (by decide) rfl (fun ls hl => ?_)
  have loop14 : ∀ (dd : Nat) (k : Nat) (T : zT) (G : Nat → Int32), 1000 - k < dd → (hk : k ≤ 1000) → (hT : ∀ w, zU T 0 2 w = zU S 0 2 w) → (e1 : zF1 (zpL S 2 n v) (1000 - k) k = zF1 (zpL S 2 n v) 1000 0) → ∀ (H : Heap) (locs : List Loc) (ls : Array Slot), zHw x A s.heap (zMW x a q (zV g 4 G) nu (zflat T)) H locs → lv_has ls 8 [(0, .ref (a 0)), (1, .int 2), (2, .int 999), (3, .int (nI n)), (4, .int v), (5, .int (S 0 2)), (6, .int (-1)), (7, .int (nI k))] → W p x.1 e (zRM 9) s m ar below meth c H locs 0 0 Q (F0 m 14 ls []) := by
    intro dd
    induction dd with
    | zero => intro k T G hm; exact absurd hm (Nat.not_lt_zero _)
    | succ dd ih14 =>
      intro k T G hm hk hT e1 H locs ls hw hl
      refine lv_iload hx hb dX6_leastBy_14 (lv_at hl 7 rfl) ?_
      refine lv_iload_n hx hb dX6_leastBy_16 rfl (lv_at hl 2 rfl) ?_
      refine lv_icmp_gt (tgt := 57) hx hb dX6_leastBy_17 (by decide) (fun c17 => ?_) (fun c17 => ?_)
      · refine lv_aload_n hx hb dX6_leastBy_57 rfl (lv_at hl 0 rfl) ?_
        refine gfX6_7 hx hb hown hts hK hw 0 rfl rfl dX6_leastBy_58 ?_
        refine lv_iload_n hx hb dX6_leastBy_61 rfl (lv_at hl 1 rfl) ?_
        refine lv_iload hx hb dX6_leastBy_62 (lv_at hl 5 rfl) ?_
        refine zias2 (f' := zflat (zU T 0 2 (S 0 2))) hx hb hK hw 1 0 2 rfl rfl rfl (by decide) (by decide) dX6_leastBy_64 (zflat_usc T _ (by decide)) (fun H locs hw => ?_)
        have hw : zHw x A s.heap (zMW x a q (zV g 4 G) nu (zflat (zU T 0 2 (S 0 2)))) H locs := hw
        have hw : zHw x A s.heap (zMW x a q (zV g 4 G) nu (zflat S)) H locs := hw.re (congrArg (fun z => zMW x a q _ nu (zflat z)) ((hT (S 0 2)).trans (zU_self S 0 2)))
        refine lv_iload hx hb dX6_leastBy_65 (lv_at hl 6 rfl) ?_
        refine lv_if_ge (tgt := 79) hx hb dX6_leastBy_67 (by decide) (fun c67 => absurd c67 (by decide)) (fun c67 => ?_)
        refine lv_aload_n hx hb dX6_leastBy_70 rfl (lv_at hl 0 rfl) ?_
        refine lv_ldc (v := (-1000000004)) hx hb hown (hts _ ckX6_142) dX6_leastBy_71 ?_
        refine zcVwi (r := (-1000000004)) hx hb hml hown hts hl.1 hK hE hA lkX6_64 (c_X6_finds x a q (zV g 4 G) nu (zflat S) (-1000000004) 3 (by decide) (by decide)) ⟨Nat.le_of_ble_eq_true rfl, Nat.le_of_ble_eq_true rfl⟩ ⟨Nat.zero_le _, Nat.zero_le _⟩ hw 0 4 rfl rfl rfl rfl (Nat.le_of_ble_eq_true rfl) dX6_leastBy_73 (fun H locs hw => ?_)
        have hw : zHw x A s.heap (zMW x a q (zU (zV g 4 G) 5 3 ((zV g 4 G) 5 3 + 1)) nu (zflat S)) H locs := hw
        refine lv_goto (tgt := 81) hx hb dX6_leastBy_76 (by decide) ?_
        exact zFG.iret hx hb hr hlocks hQ hw rfl dX6_leastBy_81 (zPM.mk (t := zm_lb 2 999 S (g 5) n v) (r := (-1000000004)) (S' := S) (fd' := zFd (g 5) 3) (by have e5 : k = 1000 := zgt hk c17; unfold zm_lb; rw [← e1, e5]; rfl) G (rfl))
      · have hkn : k ≤ 999 := (nI_leI (b := 999) (by omega) (by decide)).mp (Int32.not_lt.mp c17)
        have hd : 1000 - k = (1000 - (k + 1)) + 1 := by omega
        refine lv_iload hx hb dX6_leastBy_20 (lv_at hl 6 rfl) ?_
        refine lv_if_ge (tgt := 57) hx hb dX6_leastBy_22 (by decide) (fun c22 => absurd c22 (by decide)) (fun c22 => ?_)
        refine lv_aload_n hx hb dX6_leastBy_25 rfl (lv_at hl 0 rfl) ?_
        refine gfX6_7 hx hb hown hts hK hw 0 rfl rfl dX6_leastBy_26 ?_
        refine lv_iload_n hx hb dX6_leastBy_29 rfl (lv_at hl 1 rfl) ?_
        refine lv_iload hx hb dX6_leastBy_30 (lv_at hl 7 rfl) ?_
        refine zias2 (f' := zflat (zU T 0 2 (nI k))) hx hb hK hw 1 0 2 rfl rfl rfl (by decide) (by decide) dX6_leastBy_32 (zflat_usc T _ (by decide)) (fun H locs hw => ?_)
        have hw : zHw x A s.heap (zMW x a q (zV g 4 G) nu (zflat (zU T 0 2 (nI k)))) H locs := hw
        have hw : zHw x A s.heap (zMW x a q (zV g 4 G) nu (zflat (zU S 0 2 (nI k)))) H locs := hw.re (congrArg (fun z => zMW x a q _ nu (zflat z)) (hT (nI k)))
        refine lv_aload_n hx hb dX6_leastBy_33 rfl (lv_at hl 0 rfl) ?_
        refine lv_iload_n hx hb dX6_leastBy_34 rfl (lv_at hl 3 rfl) ?_
        refine zcVwi (r := zWr (zGo n (zU S 0 2 (nI k)))) hx hb hml hown hts hl.1 hK hE hA lkX6_171 (c_X6_worseIn x a q (zV g 4 G) nu (zU S 0 2 (nI k)) n (hI.u (Or.inr ⟨k, (show k ≤ 99999 by omega), rfl⟩)) (by omega)) ⟨Nat.le_of_ble_eq_true rfl, Nat.le_of_ble_eq_true rfl⟩ ⟨Nat.zero_le _, Nat.zero_le _⟩ hw 0 4 rfl rfl rfl rfl (Nat.le_of_ble_eq_true rfl) dX6_leastBy_35 (fun H locs hw => ?_)
        have hw : zHw x A s.heap (zMW x a q (zV (zV g 4 G) 4 (zflat (zU S 0 2 (nI k)))) nu (zflat (zU S 0 2 (nI k)))) H locs := hw
        have hw : zHw x A s.heap (zMW x a q (zV g 4 (zflat (zU S 0 2 (nI k)))) nu (zflat (zU S 0 2 (nI k)))) H locs := hw.re (congrArg (fun z => zMW x a q z nu _) (zV_V _ _ _ _))
        refine lv_iload hx hb dX6_leastBy_38 (lv_at hl 4 rfl) ?_
        refine lv_icmp_gt (tgt := 48) hx hb dX6_leastBy_40 (by decide) (fun c40 => ?_) (fun c40 => ?_)
        · refine lv_iconst (v := (-1)) hx hb dX6_leastBy_48 (by decide) ?_
          refine lv_istore (lv' := [(6, .int (-1)), (0, .ref (a 0)), (1, .int 2), (2, .int 999), (3, .int (nI n)), (4, .int v), (5, .int (S 0 2)), (7, .int (nI k))]) hx hb dX6_leastBy_49 hl (by decide) rfl (fun ls hl => ?_)
          refine lv_iinc (v := nI (k + 1)) (lv' := [(7, .int (nI (k + 1))), (6, .int (-1)), (0, .ref (a 0)), (1, .int 2), (2, .int 999), (3, .int (nI n)), (4, .int v), (5, .int (S 0 2))]) hx hb dX6_leastBy_51 hl (k := 7) rfl (nI_1 k) (by decide) rfl (fun ls hl => ?_)
          refine lv_goto (tgt := 14) hx hb dX6_leastBy_54 (by decide) ?_
          exact ih14 (k + 1) (zU S 0 2 (nI k)) (zflat (zU S 0 2 (nI k))) (by omega) (by omega) (fun w => zU_U S 0 2 (nI k) w) (by rw [← e1, hd, zF1_f (fun e => absurd (of_decide_eq_true e) (Int32.not_le.mpr c40))]) _ _ _ hw (lv_sub hl [2, 3, 4, 5, 6, 7, 1, 0] rfl)
        · refine lv_iload hx hb dX6_leastBy_43 (lv_at hl 7 rfl) ?_
          refine lv_goto (tgt := 49) hx hb dX6_leastBy_45 (by decide) ?_
          refine lv_istore (lv' := [(6, .int (nI k)), (0, .ref (a 0)), (1, .int 2), (2, .int 999), (3, .int (nI n)), (4, .int v), (5, .int (S 0 2)), (7, .int (nI k))]) hx hb dX6_leastBy_49 hl (by decide) rfl (fun ls hl => ?_)
          refine lv_iinc (v := nI (k + 1)) (lv' := [(7, .int (nI (k + 1))), (6, .int (nI k)), (0, .ref (a 0)), (1, .int 2), (2, .int 999), (3, .int (nI n)), (4, .int v), (5, .int (S 0 2))]) hx hb dX6_leastBy_51 hl (k := 7) rfl (nI_1 k) (by decide) rfl (fun ls hl => ?_)
          refine lv_goto (tgt := 14) hx hb dX6_leastBy_54 (by decide) ?_
          refine lv_iload hx hb dX6_leastBy_14 (lv_at hl 0 rfl) ?_
          refine lv_iload_n hx hb dX6_leastBy_16 rfl (lv_at hl 4 rfl) ?_
          refine lv_icmp_gt (tgt := 57) hx hb dX6_leastBy_17 (by decide) (fun c17 => ?_) (fun c17 => ?_)
          · refine lv_aload_n hx hb dX6_leastBy_57 rfl (lv_at hl 2 rfl) ?_
            refine gfX6_7 hx hb hown hts hK hw 0 rfl rfl dX6_leastBy_58 ?_
            refine lv_iload_n hx hb dX6_leastBy_61 rfl (lv_at hl 3 rfl) ?_
            refine lv_iload hx hb dX6_leastBy_62 (lv_at hl 7 rfl) ?_
            refine zias2 (f' := zflat (zU (zU S 0 2 (nI k)) 0 2 (S 0 2))) hx hb hK hw 1 0 2 rfl rfl rfl (by decide) (by decide) dX6_leastBy_64 (zflat_usc (zU S 0 2 (nI k)) _ (by decide)) (fun H locs hw => ?_)
            have hw : zHw x A s.heap (zMW x a q (zV g 4 (zflat (zU S 0 2 (nI k)))) nu (zflat (zU (zU S 0 2 (nI k)) 0 2 (S 0 2)))) H locs := hw
            have hw : zHw x A s.heap (zMW x a q (zV g 4 (zflat (zU S 0 2 (nI k)))) nu (zflat S)) H locs := hw.re (congrArg (fun z => zMW x a q _ nu (zflat z)) ((zU_U S 0 2 (nI k) (S 0 2)).trans (zU_self S 0 2)))
            refine lv_iload hx hb dX6_leastBy_65 (lv_at hl 1 rfl) ?_
            refine lv_if_ge (tgt := 79) hx hb dX6_leastBy_67 (by decide) (fun c67 => ?_) (fun c67 => absurd (nI_pos' (by omega)) c67)
            refine lv_iload hx hb dX6_leastBy_79 (lv_at hl 1 rfl) ?_
            exact zFG.iret hx hb hr hlocks hQ hw rfl dX6_leastBy_81 (zPM.mk (t := zm_lb 2 999 S (g 5) n v) (r := nI k) (S' := S) (fd' := g 5) (by unfold zm_lb; rw [← e1, hd, zF1_t (decide_eq_true (Int32.not_lt.mp c40))]) (zflat (zU S 0 2 (nI k))) (congrArg (fun z => zMW x a q z nu _) (zG2 g (zflat (zU S 0 2 (nI k))))))
          · refine lv_iload hx hb dX6_leastBy_20 (lv_at hl 1 rfl) ?_
            refine lv_if_ge (tgt := 57) hx hb dX6_leastBy_22 (by decide) (fun c22 => ?_) (fun c22 => absurd (nI_pos' (by omega)) c22)
            refine lv_aload_n hx hb dX6_leastBy_57 rfl (lv_at hl 2 rfl) ?_
            refine gfX6_7 hx hb hown hts hK hw 0 rfl rfl dX6_leastBy_58 ?_
            refine lv_iload_n hx hb dX6_leastBy_61 rfl (lv_at hl 3 rfl) ?_
            refine lv_iload hx hb dX6_leastBy_62 (lv_at hl 7 rfl) ?_
            refine zias2 (f' := zflat (zU (zU S 0 2 (nI k)) 0 2 (S 0 2))) hx hb hK hw 1 0 2 rfl rfl rfl (by decide) (by decide) dX6_leastBy_64 (zflat_usc (zU S 0 2 (nI k)) _ (by decide)) (fun H locs hw => ?_)
            have hw : zHw x A s.heap (zMW x a q (zV g 4 (zflat (zU S 0 2 (nI k)))) nu (zflat (zU (zU S 0 2 (nI k)) 0 2 (S 0 2)))) H locs := hw
            have hw : zHw x A s.heap (zMW x a q (zV g 4 (zflat (zU S 0 2 (nI k)))) nu (zflat S)) H locs := hw.re (congrArg (fun z => zMW x a q _ nu (zflat z)) ((zU_U S 0 2 (nI k) (S 0 2)).trans (zU_self S 0 2)))
            refine lv_iload hx hb dX6_leastBy_65 (lv_at hl 1 rfl) ?_
            refine lv_if_ge (tgt := 79) hx hb dX6_leastBy_67 (by decide) (fun c67 => ?_) (fun c67 => absurd (nI_pos' (by omega)) c67)
            refine lv_iload hx hb dX6_leastBy_79 (lv_at hl 1 rfl) ?_
            exact zFG.iret hx hb hr hlocks hQ hw rfl dX6_leastBy_81 (zPM.mk (t := zm_lb 2 999 S (g 5) n v) (r := nI k) (S' := S) (fd' := g 5) (by unfold zm_lb; rw [← e1, hd, zF1_t (decide_eq_true (Int32.not_lt.mp c40))]) (zflat (zU S 0 2 (nI k))) (congrArg (fun z => zMW x a q z nu _) (zG2 g (zflat (zU S 0 2 (nI k))))))
  exact loop14 (_ + 1) 0 S (g 4) (Nat.lt_succ_self _) (Nat.zero_le _) (fun _ => rfl) rfl _ _ _ (hw.re (by rw [zV_self])) (lv_sub hl [3, 4, 5, 6, 7, 2, 1, 0] rfl)

set_option maxHeartbeats 4000000 in
set_option maxRecDepth 100000 in
theorem c_X6_men (x : zX) (a : Nat → Nat) (q : Nat → Int32) (g : zT) (nu : Nat → Nat → Int64) (S : zT) (n v : Int32) (hI : zInv S) : zFG x mX6_men 10 [.ref (a 0), .int n, .int v] (zMW x a q g nu (zflat S)) (zPM x a q g nu (zm_least 4 6 52 S (g 5) n v)) := by
  refine zFG.start RX6 cX6_men 3 (some .int) rfl rfl (by decide +kernel) (Nat.le_of_ble_eq_true rfl) ?_
  intro p e s m ar below meth c ls A Q hx hb hr hml hown hts hlocks hK hE hA hQ hl hw
  have hl : lv_has ls 3 [(0, .ref (a 0)), (1, .int n), (2, .int v)] := hl
  have hw : zHw x A s.heap (zMW x a q g nu (zflat S)) s.heap [] := hw
  refine lv_iload_n hx hb dX6_men_0 rfl (lv_at hl 1 rfl) ?_
  refine lv_iconst (v := 1) hx hb dX6_men_1 (by decide) ?_
  refine lv_bipush (v := 52) hx hb dX6_men_2 (by decide) ?_
  refine zcSwi (r := zb (1 ≤ n ∧ n ≤ 52)) hx hb hml hown hts hl.1 hK hE hA lkX6_161 (c_X6_isFar x (zMW x a q g nu (zflat S)) n 1 52) ⟨Nat.le_of_ble_eq_true rfl, Nat.le_of_ble_eq_true rfl⟩ ⟨Nat.zero_le _, Nat.zero_le _⟩ hw rfl rfl (Nat.le_of_ble_eq_true rfl) dX6_men_4 (fun H locs hw => ?_)
  have hw : zHw x A s.heap (zMW x a q g nu (zflat S)) H locs := hw
  refine lv_if_eq (tgt := 34) hx hb dX6_men_7 (by decide) (fun c7 => ?_) (fun c7 => ?_)
  · have c7 := zb_0.mp c7
    refine lv_aload_n hx hb dX6_men_34 rfl (lv_at hl 0 rfl) ?_
    refine lv_ldc (v := (-1000000001)) hx hb hown (hts _ ckX6_45) dX6_men_35 ?_
    refine zcVwi (r := (-1000000001)) hx hb hml hown hts hl.1 hK hE hA lkX6_64 (c_X6_finds x a q g nu (zflat S) (-1000000001) 0 (by decide) (by decide)) ⟨Nat.le_of_ble_eq_true rfl, Nat.le_of_ble_eq_true rfl⟩ ⟨Nat.zero_le _, Nat.zero_le _⟩ hw 0 4 rfl rfl rfl rfl (Nat.le_of_ble_eq_true rfl) dX6_men_37 (fun H locs hw => ?_)
    have hw : zHw x A s.heap (zMW x a q (zU g 5 0 (g 5 0 + 1)) nu (zflat S)) H locs := hw
    exact zFG.iret hx hb hr hlocks hQ hw rfl dX6_men_40 (zPM.mk (t := zm_least 4 6 52 S (g 5) n v) (r := (-1000000001)) (S' := S) (fd' := zFd (g 5) 0) (by unfold zm_least; first | (rw [if_neg (fun h => c19 h.2)]; rfl) | (rw [if_neg (fun h => c7 h.1)]; rfl)) (g 4) (congrArg (fun z => zMW x a q z nu _) (zG1 g 0)))
  · have c7 := zb_n0.mp c7
    refine lv_iload_n hx hb dX6_men_10 rfl (lv_at hl 2 rfl) ?_
    refine lv_i2l hx hb dX6_men_11 rfl ?_
    refine lv_lconst (v := 0) hx hb dX6_men_12 (by decide) ?_
    refine lv_ldc2 (v := 999) hx hb hown (hts _ ckX6_112) dX6_men_13 ?_
    refine zcSwi (r := zb (0 ≤ v ∧ v ≤ 999)) hx hb hml hown hts hl.1 hK hE hA lkX6_48 (c_X6_inI x (zMW x a q g nu (zflat S)) v 0 999) ⟨Nat.le_of_ble_eq_true rfl, Nat.le_of_ble_eq_true rfl⟩ ⟨Nat.zero_le _, Nat.zero_le _⟩ hw rfl rfl (Nat.le_of_ble_eq_true rfl) dX6_men_16 (fun H locs hw => ?_)
    have hw : zHw x A s.heap (zMW x a q g nu (zflat S)) H locs := hw
    refine lv_if_eq (tgt := 34) hx hb dX6_men_19 (by decide) (fun c19 => ?_) (fun c19 => ?_)
    · have c19 := zb_0.mp c19
      refine lv_aload_n hx hb dX6_men_34 rfl (lv_at hl 0 rfl) ?_
      refine lv_ldc (v := (-1000000001)) hx hb hown (hts _ ckX6_45) dX6_men_35 ?_
      refine zcVwi (r := (-1000000001)) hx hb hml hown hts hl.1 hK hE hA lkX6_64 (c_X6_finds x a q g nu (zflat S) (-1000000001) 0 (by decide) (by decide)) ⟨Nat.le_of_ble_eq_true rfl, Nat.le_of_ble_eq_true rfl⟩ ⟨Nat.zero_le _, Nat.zero_le _⟩ hw 0 4 rfl rfl rfl rfl (Nat.le_of_ble_eq_true rfl) dX6_men_37 (fun H locs hw => ?_)
      have hw : zHw x A s.heap (zMW x a q (zU g 5 0 (g 5 0 + 1)) nu (zflat S)) H locs := hw
      exact zFG.iret hx hb hr hlocks hQ hw rfl dX6_men_40 (zPM.mk (t := zm_least 4 6 52 S (g 5) n v) (r := (-1000000001)) (S' := S) (fd' := zFd (g 5) 0) (by unfold zm_least; first | (rw [if_neg (fun h => c19 h.2)]; rfl) | (rw [if_neg (fun h => c7 h.1)]; rfl)) (g 4) (congrArg (fun z => zMW x a q z nu _) (zG1 g 0)))
    · have c19 := zb_n0.mp c19
      obtain ⟨i, hi, rfl⟩ := zBw_nat (hi := 52) c7 (by decide) (by decide)
      refine lv_aload_n hx hb dX6_men_22 rfl (lv_at hl 0 rfl) ?_
      refine lv_iconst (v := 4) hx hb dX6_men_23 (by decide) ?_
      refine lv_bipush (v := 6) hx hb dX6_men_24 (by decide) ?_
      refine lv_iload_n hx hb dX6_men_26 rfl (lv_at hl 1 rfl) ?_
      refine lv_iload_n hx hb dX6_men_27 rfl (lv_at hl 2 rfl) ?_
      refine zcVw hx hb hml hown hts hl.1 hK hE hA lkX6_177 (c_X6_leastBy_4 x a q g nu S i v hI (by omega)) ⟨Nat.le_of_ble_eq_true rfl, Nat.le_of_ble_eq_true rfl⟩ ⟨Nat.zero_le _, Nat.zero_le _⟩ hw 0 4 rfl rfl rfl rfl (Nat.le_of_ble_eq_true rfl) dX6_men_28 (fun vv uu H locs hp hw => ?_)
      obtain ⟨rfl, F, rfl⟩ := hp
      refine W.eq (g2 := F0 m 31 ls [.int ((zm_lb 4 6 S (g 5) i v).1)]) rfl ?_
      have hw : zHw x A s.heap (zMW x a q (zV (zV g 4 F) 5 (zm_lb 4 6 S (g 5) i v).2.2) nu (zflat ((zm_lb 4 6 S (g 5) i v).2.1))) H locs := hw
      refine lv_goto (tgt := 40) hx hb dX6_men_31 (by decide) ?_
      exact zFG.iret hx hb hr hlocks hQ hw rfl dX6_men_40 (by rw [show zm_least 4 6 52 S (g 5) (nI i) v = zm_lb 4 6 S (g 5) i v from (zm_least_pos ⟨c7, c19⟩).trans (by rw [zc_nI (show i < 2147483648 by omega)])]; exact ⟨rfl, F, rfl⟩)

set_option maxHeartbeats 4000000 in
set_option maxRecDepth 100000 in
theorem c_X6_budget (x : zX) (a : Nat → Nat) (q : Nat → Int32) (g : zT) (nu : Nat → Nat → Int64) (S : zT) (n v : Int32) (hI : zInv S) : zFG x mX6_budget 10 [.ref (a 0), .int n, .int v] (zMW x a q g nu (zflat S)) (zPM x a q g nu (zm_least 2 999 20 S (g 5) n v)) := by
  refine zFG.start RX6 cX6_budget 3 (some .int) rfl rfl (by decide +kernel) (Nat.le_of_ble_eq_true rfl) ?_
  intro p e s m ar below meth c ls A Q hx hb hr hml hown hts hlocks hK hE hA hQ hl hw
  have hl : lv_has ls 3 [(0, .ref (a 0)), (1, .int n), (2, .int v)] := hl
  have hw : zHw x A s.heap (zMW x a q g nu (zflat S)) s.heap [] := hw
  refine lv_iload_n hx hb dX6_budget_0 rfl (lv_at hl 1 rfl) ?_
  refine lv_iconst (v := 1) hx hb dX6_budget_1 (by decide) ?_
  refine lv_bipush (v := 20) hx hb dX6_budget_2 (by decide) ?_
  refine zcSwi (r := zb (1 ≤ n ∧ n ≤ 20)) hx hb hml hown hts hl.1 hK hE hA lkX6_161 (c_X6_isFar x (zMW x a q g nu (zflat S)) n 1 20) ⟨Nat.le_of_ble_eq_true rfl, Nat.le_of_ble_eq_true rfl⟩ ⟨Nat.zero_le _, Nat.zero_le _⟩ hw rfl rfl (Nat.le_of_ble_eq_true rfl) dX6_budget_4 (fun H locs hw => ?_)
  have hw : zHw x A s.heap (zMW x a q g nu (zflat S)) H locs := hw
  refine lv_if_eq (tgt := 35) hx hb dX6_budget_7 (by decide) (fun c7 => ?_) (fun c7 => ?_)
  · have c7 := zb_0.mp c7
    refine lv_aload_n hx hb dX6_budget_35 rfl (lv_at hl 0 rfl) ?_
    refine lv_ldc (v := (-1000000001)) hx hb hown (hts _ ckX6_45) dX6_budget_36 ?_
    refine zcVwi (r := (-1000000001)) hx hb hml hown hts hl.1 hK hE hA lkX6_64 (c_X6_finds x a q g nu (zflat S) (-1000000001) 0 (by decide) (by decide)) ⟨Nat.le_of_ble_eq_true rfl, Nat.le_of_ble_eq_true rfl⟩ ⟨Nat.zero_le _, Nat.zero_le _⟩ hw 0 4 rfl rfl rfl rfl (Nat.le_of_ble_eq_true rfl) dX6_budget_38 (fun H locs hw => ?_)
    have hw : zHw x A s.heap (zMW x a q (zU g 5 0 (g 5 0 + 1)) nu (zflat S)) H locs := hw
    exact zFG.iret hx hb hr hlocks hQ hw rfl dX6_budget_41 (zPM.mk (t := zm_least 2 999 20 S (g 5) n v) (r := (-1000000001)) (S' := S) (fd' := zFd (g 5) 0) (by unfold zm_least; first | (rw [if_neg (fun h => c19 h.2)]; rfl) | (rw [if_neg (fun h => c7 h.1)]; rfl)) (g 4) (congrArg (fun z => zMW x a q z nu _) (zG1 g 0)))
  · have c7 := zb_n0.mp c7
    refine lv_iload_n hx hb dX6_budget_10 rfl (lv_at hl 2 rfl) ?_
    refine lv_i2l hx hb dX6_budget_11 rfl ?_
    refine lv_lconst (v := 0) hx hb dX6_budget_12 (by decide) ?_
    refine lv_ldc2 (v := 999) hx hb hown (hts _ ckX6_112) dX6_budget_13 ?_
    refine zcSwi (r := zb (0 ≤ v ∧ v ≤ 999)) hx hb hml hown hts hl.1 hK hE hA lkX6_48 (c_X6_inI x (zMW x a q g nu (zflat S)) v 0 999) ⟨Nat.le_of_ble_eq_true rfl, Nat.le_of_ble_eq_true rfl⟩ ⟨Nat.zero_le _, Nat.zero_le _⟩ hw rfl rfl (Nat.le_of_ble_eq_true rfl) dX6_budget_16 (fun H locs hw => ?_)
    have hw : zHw x A s.heap (zMW x a q g nu (zflat S)) H locs := hw
    refine lv_if_eq (tgt := 35) hx hb dX6_budget_19 (by decide) (fun c19 => ?_) (fun c19 => ?_)
    · have c19 := zb_0.mp c19
      refine lv_aload_n hx hb dX6_budget_35 rfl (lv_at hl 0 rfl) ?_
      refine lv_ldc (v := (-1000000001)) hx hb hown (hts _ ckX6_45) dX6_budget_36 ?_
      refine zcVwi (r := (-1000000001)) hx hb hml hown hts hl.1 hK hE hA lkX6_64 (c_X6_finds x a q g nu (zflat S) (-1000000001) 0 (by decide) (by decide)) ⟨Nat.le_of_ble_eq_true rfl, Nat.le_of_ble_eq_true rfl⟩ ⟨Nat.zero_le _, Nat.zero_le _⟩ hw 0 4 rfl rfl rfl rfl (Nat.le_of_ble_eq_true rfl) dX6_budget_38 (fun H locs hw => ?_)
      have hw : zHw x A s.heap (zMW x a q (zU g 5 0 (g 5 0 + 1)) nu (zflat S)) H locs := hw
      exact zFG.iret hx hb hr hlocks hQ hw rfl dX6_budget_41 (zPM.mk (t := zm_least 2 999 20 S (g 5) n v) (r := (-1000000001)) (S' := S) (fd' := zFd (g 5) 0) (by unfold zm_least; first | (rw [if_neg (fun h => c19 h.2)]; rfl) | (rw [if_neg (fun h => c7 h.1)]; rfl)) (g 4) (congrArg (fun z => zMW x a q z nu _) (zG1 g 0)))
    · have c19 := zb_n0.mp c19
      obtain ⟨i, hi, rfl⟩ := zBw_nat (hi := 20) c7 (by decide) (by decide)
      refine lv_aload_n hx hb dX6_budget_22 rfl (lv_at hl 0 rfl) ?_
      refine lv_iconst (v := 2) hx hb dX6_budget_23 (by decide) ?_
      refine lv_sipush (v := 999) hx hb dX6_budget_24 (by decide) ?_
      refine lv_iload_n hx hb dX6_budget_27 rfl (lv_at hl 1 rfl) ?_
      refine lv_iload_n hx hb dX6_budget_28 rfl (lv_at hl 2 rfl) ?_
      refine zcVw hx hb hml hown hts hl.1 hK hE hA lkX6_177 (c_X6_leastBy_2 x a q g nu S i v hI (by omega)) ⟨Nat.le_of_ble_eq_true rfl, Nat.le_of_ble_eq_true rfl⟩ ⟨Nat.zero_le _, Nat.zero_le _⟩ hw 0 4 rfl rfl rfl rfl (Nat.le_of_ble_eq_true rfl) dX6_budget_29 (fun vv uu H locs hp hw => ?_)
      obtain ⟨rfl, F, rfl⟩ := hp
      refine W.eq (g2 := F0 m 32 ls [.int ((zm_lb 2 999 S (g 5) i v).1)]) rfl ?_
      have hw : zHw x A s.heap (zMW x a q (zV (zV g 4 F) 5 (zm_lb 2 999 S (g 5) i v).2.2) nu (zflat ((zm_lb 2 999 S (g 5) i v).2.1))) H locs := hw
      refine lv_goto (tgt := 41) hx hb dX6_budget_32 (by decide) ?_
      exact zFG.iret hx hb hr hlocks hQ hw rfl dX6_budget_41 (by rw [show zm_least 2 999 20 S (g 5) (nI i) v = zm_lb 2 999 S (g 5) i v from (zm_least_pos ⟨c7, c19⟩).trans (by rw [zc_nI (show i < 2147483648 by omega)])]; exact ⟨rfl, F, rfl⟩)

set_option maxHeartbeats 4000000 in
set_option maxRecDepth 100000 in
theorem c_X6_kind (x : zX) (a : Nat → Nat) (q : Nat → Int32) (g : zT) (nu : Nat → Nat → Int64) (S : zT) (h n : Int32) (hI : zInv S) : zFG x mX6_kind 8 [.ref (a 0), .int h, .int n] (zMW x a q g nu (zflat S)) (zPM x a q g nu (zm_kind S (g 5) h n)) := by
  refine zFG.start RX6 cX6_kind 7 (some .int) rfl rfl (by decide +kernel) (Nat.le_of_ble_eq_true rfl) ?_
  intro p e s m ar below meth c ls A Q hx hb hr hml hown hts hlocks hK hE hA hQ hl hw
  have hl : lv_has ls 7 [(0, .ref (a 0)), (1, .int h), (2, .int n)] := hl
  have hw : zHw x A s.heap (zMW x a q g nu (zflat S)) s.heap [] := hw
  refine lv_aload_n hx hb dX6_kind_0 rfl (lv_at hl 0 rfl) ?_
  refine lv_iload_n hx hb dX6_kind_1 rfl (lv_at hl 1 rfl) ?_
  refine zcVwi (r := zb (0 ≤ h ∧ h < S 0 0)) hx hb hml hown hts hl.1 hK hE hA lkX6_98 (c_X6_isHole x a q g nu S h hI) ⟨Nat.le_of_ble_eq_true rfl, Nat.le_of_ble_eq_true rfl⟩ ⟨Nat.zero_le _, Nat.zero_le _⟩ hw 0 4 rfl rfl rfl rfl (Nat.le_of_ble_eq_true rfl) dX6_kind_2 (fun H locs hw => ?_)
  have hw : zHw x A s.heap (zMW x a q g nu (zflat S)) H locs := hw
  refine lv_if_eq (tgt := 18) hx hb dX6_kind_5 (by decide) (fun c5 => ?_) (fun c5 => ?_)
  · have c5 := zb_0.mp c5
    refine lv_aload_n hx hb dX6_kind_18 rfl (lv_at hl 0 rfl) ?_
    refine lv_ldc (v := (-1000000001)) hx hb hown (hts _ ckX6_45) dX6_kind_19 ?_
    refine zcVwi (r := (-1000000001)) hx hb hml hown hts hl.1 hK hE hA lkX6_64 (c_X6_finds x a q g nu (zflat S) (-1000000001) 0 (by decide) (by decide)) ⟨Nat.le_of_ble_eq_true rfl, Nat.le_of_ble_eq_true rfl⟩ ⟨Nat.zero_le _, Nat.zero_le _⟩ hw 0 4 rfl rfl rfl rfl (Nat.le_of_ble_eq_true rfl) dX6_kind_21 (fun H locs hw => ?_)
    have hw : zHw x A s.heap (zMW x a q (zU g 5 0 (g 5 0 + 1)) nu (zflat S)) H locs := hw
    exact zFG.iret hx hb hr hlocks hQ hw rfl dX6_kind_24 (zPM.mk (t := zm_kind S (g 5) h n) (r := (-1000000001)) (S' := S) (fd' := zFd (g 5) 0) (by unfold zm_kind; first | (rw [if_neg (fun h => c15 h.2)]; rfl) | (rw [if_neg (fun h => c5 h.1)]; rfl)) (g 4) (congrArg (fun z => zMW x a q z nu _) (zG1 g 0)))
  · have c5 := zb_n0.mp c5
    refine lv_iload_n hx hb dX6_kind_8 rfl (lv_at hl 2 rfl) ?_
    refine lv_iconst (v := 1) hx hb dX6_kind_9 (by decide) ?_
    refine lv_bipush (v := 52) hx hb dX6_kind_10 (by decide) ?_
    refine zcSwi (r := zb (1 ≤ n ∧ n ≤ 52)) hx hb hml hown hts hl.1 hK hE hA lkX6_161 (c_X6_isFar x (zMW x a q g nu (zflat S)) n 1 52) ⟨Nat.le_of_ble_eq_true rfl, Nat.le_of_ble_eq_true rfl⟩ ⟨Nat.zero_le _, Nat.zero_le _⟩ hw rfl rfl (Nat.le_of_ble_eq_true rfl) dX6_kind_12 (fun H locs hw => ?_)
    have hw : zHw x A s.heap (zMW x a q g nu (zflat S)) H locs := hw
    refine lv_if_ne (tgt := 25) hx hb dX6_kind_15 (by decide) (fun c15 => ?_) (fun c15 => ?_)
    · have c15 := zb_n0.mp c15
      obtain ⟨i, hi8, hiN, rfl⟩ := zH_nat hI c5
      obtain ⟨j, hj, rfl⟩ := zBw_nat (hi := 52) c15 (by decide) (by decide)
      refine lv_iconst (v := 0) hx hb dX6_kind_25 (by decide) ?_
      refine lv_istore_n (lv' := [(3, .int 0), (0, .ref (a 0)), (1, .int (nI i)), (2, .int (nI j))]) hx hb dX6_kind_26 rfl hl (by decide) rfl (fun ls hl => ?_)
      refine lv_bipush (v := 100) hx hb dX6_kind_27 (by decide) ?_
      refine lv_istore (lv' := [(4, .int 100), (3, .int 0), (0, .ref (a 0)), (1, .int (nI i)), (2, .int (nI j))]) hx hb dX6_kind_29 hl (by decide) rfl (fun ls hl => ?_)
      refine lv_aload_n hx hb dX6_kind_31 rfl (lv_at hl 2 rfl) ?_
      refine zcVwv hx hb hml hown hts hl.1 hK hE hA lkX6_165 (c_X6_laysAside x a q g nu (zflat S)) ⟨Nat.le_of_ble_eq_true rfl, Nat.le_of_ble_eq_true rfl⟩ ⟨Nat.zero_le _, Nat.zero_le _⟩ hw 0 4 rfl rfl rfl rfl (Nat.le_of_ble_eq_true rfl) dX6_kind_32 (fun H locs hw => ?_)
      have hw : zHw x A s.heap (zMW x a q (zV g 4 (zflat S)) nu (zflat S)) H locs := hw
      refine lv_iconst (v := 0) hx hb dX6_kind_35 (by decide) ?_
      refine lv_istore (lv' := [(5, .int 0), (4, .int 100), (3, .int 0), (0, .ref (a 0)), (1, .int (nI i)), (2, .int (nI j))]) hx hb dX6_kind_36 hl (by decide) rfl (fun ls hl => ?_)
      have loop38 : ∀ (dd : Nat) (k : Nat), 6 - k < dd → (hk : k ≤ 6) → ∀ (H : Heap) (locs : List Loc) (ls : Array Slot), zHw x A s.heap (zMW x a q (zV g 4 (zflat S)) nu (zflat S)) H locs → lv_has ls 7 [(0, .ref (a 0)), (1, .int (nI i)), (2, .int (nI j)), (3, .int (nI (zMi (zkF S i j) 100 k).1)), (4, .int ((zMi (zkF S i j) 100 k).2)), (5, .int (nI k))] → W p x.1 e (zRM 8) s m ar below meth c H locs 0 0 Q (F0 m 38 ls []) := by
        intro dd
        induction dd with
        | zero => intro k hm; exact absurd hm (Nat.not_lt_zero _)
        | succ dd ih38 =>
          intro k hm hk H locs ls hw hl
          refine lv_iload hx hb dX6_kind_38 (lv_at hl 5 rfl) ?_
          refine lv_iconst (v := 5) hx hb dX6_kind_40 (by decide) ?_
          refine lv_icmp_gt (tgt := 109) hx hb dX6_kind_41 (by decide) (fun c41 => ?_) (fun c41 => ?_)
          · have hke : k = 6 := zgt hk c41
            refine lv_iload_n hx hb dX6_kind_109 rfl (lv_at hl 3 rfl) ?_
            exact zFG.iret hx hb hr hlocks hQ hw rfl dX6_kind_110 (zPM.mk (t := zm_kind S (g 5) (nI i) (nI j)) (r := nI (zMi (zkF S i j) 100 k).1) (S' := S) (fd' := g 5) (by unfold zm_kind; rw [if_pos ⟨c5, c15⟩, zc_nI (show j < 2147483648 by omega), zc_nI (show i < 2147483648 by omega), hke]) (zflat S) (congrArg (fun z => zMW x a q z nu _) (zG2 g (zflat S))))
          · have hkn : k ≤ 5 := (nI_leI (b := 5) (by omega) (by decide)).mp (Int32.not_lt.mp c41)
            refine lv_aload_n hx hb dX6_kind_44 rfl (lv_at hl 0 rfl) ?_
            refine gfX6_7 hx hb hown hts hK hw 0 rfl rfl dX6_kind_45 ?_
            refine lv_iload_n hx hb dX6_kind_48 rfl (lv_at hl 1 rfl) ?_
            refine lv_iconst (v := 0) hx hb dX6_kind_49 (by decide) ?_
            refine zcSwi (r := nI (19 + 6 * i + 0)) hx hb hml hown hts hl.1 hK hE hA lkX6_52 (c_X6_spotOf x (zMW x a q (zV g 4 (zflat S)) nu (zflat S)) i 0) ⟨Nat.le_of_ble_eq_true rfl, Nat.le_of_ble_eq_true rfl⟩ ⟨Nat.zero_le _, Nat.zero_le _⟩ hw rfl rfl (Nat.le_of_ble_eq_true rfl) dX6_kind_50 (fun H locs hw => ?_)
            have hw : zHw x A s.heap (zMW x a q (zV g 4 (zflat S)) nu (zflat S)) H locs := hw
            refine lv_iload hx hb dX6_kind_53 (lv_at hl 5 rfl) ?_
            refine zias2 (f' := zflat (zU S 3 i (nI k))) hx hb hK hw 1 0 (19 + 6 * i + 0) rfl rfl rfl (by omega) (by decide) dX6_kind_55 (zflat_uit S _ (by omega)) (fun H locs hw => ?_)
            have hw : zHw x A s.heap (zMW x a q (zV g 4 (zflat S)) nu (zflat (zU S 3 i (nI k)))) H locs := hw
            refine lv_aload_n hx hb dX6_kind_56 rfl (lv_at hl 0 rfl) ?_
            refine lv_iload_n hx hb dX6_kind_57 rfl (lv_at hl 2 rfl) ?_
            refine zcVwv hx hb hml hown hts hl.1 hK hE hA lkX6_152 (c_X6_weeksGo x a q (zV g 4 (zflat S)) nu (zU S 3 i (nI k)) j (hI.u (Or.inr ⟨k, hkn, rfl⟩)) (by omega)) ⟨Nat.le_of_ble_eq_true rfl, Nat.le_of_ble_eq_true rfl⟩ ⟨Nat.zero_le _, Nat.zero_le _⟩ hw 0 4 rfl rfl rfl rfl (Nat.le_of_ble_eq_true rfl) dX6_kind_58 (fun H locs hw => ?_)
            have hw : zHw x A s.heap (zMW x a q (zV g 4 (zflat S)) nu (zflat (zGo j (zU S 3 i (nI k))))) H locs := hw
            refine lv_aload_n hx hb dX6_kind_61 rfl (lv_at hl 0 rfl) ?_
            refine lv_aload_n hx hb dX6_kind_62 rfl (lv_at hl 0 rfl) ?_
            refine lv_iload_n hx hb dX6_kind_63 rfl (lv_at hl 1 rfl) ?_
            refine lv_iconst (v := 2) hx hb dX6_kind_64 (by decide) ?_
            refine zcVwi (r := zkF S i j k) hx hb hml hown hts hl.1 hK hE hA lkX6_74 (c_X6_its x a q (zV g 4 (zflat S)) nu (zGo j (zU S 3 i (nI k))) i 2 (by omega) (by decide)) ⟨Nat.le_of_ble_eq_true rfl, Nat.le_of_ble_eq_true rfl⟩ ⟨Nat.zero_le _, Nat.zero_le _⟩ hw 0 4 rfl rfl rfl rfl (Nat.le_of_ble_eq_true rfl) dX6_kind_65 (fun H locs hw => ?_)
            have hw : zHw x A s.heap (zMW x a q (zV g 4 (zflat S)) nu (zflat (zGo j (zU S 3 i (nI k))))) H locs := hw
            refine zcVwi (r := zkF S i j k) hx hb hml hown hts hl.1 hK hE hA lkX6_168 (c_X6_takesBack x a q (zV g 4 (zflat S)) nu (zflat (zGo j (zU S 3 i (nI k)))) (zkF S i j k)) ⟨Nat.le_of_ble_eq_true rfl, Nat.le_of_ble_eq_true rfl⟩ ⟨Nat.zero_le _, Nat.zero_le _⟩ hw 0 4 rfl rfl rfl rfl (Nat.le_of_ble_eq_true rfl) dX6_kind_68 (fun H locs hw => ?_)
            have hw : zHw x A s.heap (zMW x a q (zV g 4 (zflat S)) nu (zflat S)) H locs := hw
            refine lv_istore (lv' := [(6, .int (zkF S i j k)), (0, .ref (a 0)), (1, .int (nI i)), (2, .int (nI j)), (3, .int (nI (zMi (zkF S i j) 100 k).1)), (4, .int ((zMi (zkF S i j) 100 k).2)), (5, .int (nI k))]) hx hb dX6_kind_71 hl (by decide) rfl (fun ls hl => ?_)
            refine lv_iload hx hb dX6_kind_73 (lv_at hl 0 rfl) ?_
            refine lv_iload hx hb dX6_kind_75 (lv_at hl 5 rfl) ?_
            refine lv_icmp_ge (tgt := 85) hx hb dX6_kind_77 (by decide) (fun c77 => ?_) (fun c77 => ?_)
            · refine lv_iload_n hx hb dX6_kind_85 rfl (lv_at hl 4 rfl) ?_
              refine lv_istore_n (lv' := [(3, .int (nI (zMi (zkF S i j) 100 k).1)), (6, .int (zkF S i j k)), (0, .ref (a 0)), (1, .int (nI i)), (2, .int (nI j)), (4, .int ((zMi (zkF S i j) 100 k).2)), (5, .int (nI k))]) hx hb dX6_kind_86 rfl hl (by decide) rfl (fun ls hl => ?_)
              refine lv_iload hx hb dX6_kind_87 (lv_at hl 1 rfl) ?_
              refine lv_iload hx hb dX6_kind_89 (lv_at hl 5 rfl) ?_
              refine lv_icmp_ge (tgt := 99) hx hb dX6_kind_91 (by decide) (fun c91 => ?_) (fun c91 => absurd (c77) c91)
              refine lv_iload hx hb dX6_kind_99 (lv_at hl 5 rfl) ?_
              refine lv_istore (lv' := [(4, .int ((zMi (zkF S i j) 100 k).2)), (3, .int (nI (zMi (zkF S i j) 100 k).1)), (6, .int (zkF S i j k)), (0, .ref (a 0)), (1, .int (nI i)), (2, .int (nI j)), (5, .int (nI k))]) hx hb dX6_kind_101 hl (by decide) rfl (fun ls hl => ?_)
              have hmi := (zMi_neg (Int32.not_lt.mpr c77) : zMi (zkF S i j) 100 (k + 1) = _)
              have hl : lv_has ls 7 [(4, .int ((zMi (zkF S i j) 100 k).2)), (3, .int (nI (zMi (zkF S i j) 100 (k + 1)).1)), (6, .int (zkF S i j k)), (0, .ref (a 0)), (1, .int (nI i)), (2, .int (nI j)), (5, .int (nI k))] := by
                rw [show nI (zMi (zkF S i j) 100 (k + 1)).1 = nI (zMi (zkF S i j) 100 k).1 from (by rw [hmi])]; exact hl
              have hl : lv_has ls 7 [(4, .int ((zMi (zkF S i j) 100 (k + 1)).2)), (3, .int (nI (zMi (zkF S i j) 100 (k + 1)).1)), (6, .int (zkF S i j k)), (0, .ref (a 0)), (1, .int (nI i)), (2, .int (nI j)), (5, .int (nI k))] := by
                rw [show (zMi (zkF S i j) 100 (k + 1)).2 = (zMi (zkF S i j) 100 k).2 from (by rw [hmi])]; exact hl
              refine lv_iinc (v := nI (k + 1)) (lv' := [(5, .int (nI (k + 1))), (4, .int ((zMi (zkF S i j) 100 (k + 1)).2)), (3, .int (nI (zMi (zkF S i j) 100 (k + 1)).1)), (6, .int (zkF S i j k)), (0, .ref (a 0)), (1, .int (nI i)), (2, .int (nI j))]) hx hb dX6_kind_103 hl (k := 6) rfl (nI_1 k) (by decide) rfl (fun ls hl => ?_)
              refine lv_goto (tgt := 38) hx hb dX6_kind_106 (by decide) ?_
              exact ih38 (k + 1) (by omega) (by omega) _ _ _ hw (lv_sub hl [4, 5, 6, 2, 1, 0] rfl)
            · refine lv_iload hx hb dX6_kind_80 (lv_at hl 6 rfl) ?_
              refine lv_goto (tgt := 86) hx hb dX6_kind_82 (by decide) ?_
              refine lv_istore_n (lv' := [(3, .int (nI k)), (6, .int (zkF S i j k)), (0, .ref (a 0)), (1, .int (nI i)), (2, .int (nI j)), (4, .int ((zMi (zkF S i j) 100 k).2)), (5, .int (nI k))]) hx hb dX6_kind_86 rfl hl (by decide) rfl (fun ls hl => ?_)
              refine lv_iload hx hb dX6_kind_87 (lv_at hl 1 rfl) ?_
              refine lv_iload hx hb dX6_kind_89 (lv_at hl 5 rfl) ?_
              refine lv_icmp_ge (tgt := 99) hx hb dX6_kind_91 (by decide) (fun c91 => absurd c91 (c77)) (fun c91 => ?_)
              refine lv_iload hx hb dX6_kind_94 (lv_at hl 1 rfl) ?_
              refine lv_goto (tgt := 101) hx hb dX6_kind_96 (by decide) ?_
              refine lv_istore (lv' := [(4, .int (zkF S i j k)), (3, .int (nI k)), (6, .int (zkF S i j k)), (0, .ref (a 0)), (1, .int (nI i)), (2, .int (nI j)), (5, .int (nI k))]) hx hb dX6_kind_101 hl (by decide) rfl (fun ls hl => ?_)
              have hmi := (zMi_pos (Int32.not_le.mp c77) : zMi (zkF S i j) 100 (k + 1) = _)
              have hl : lv_has ls 7 [(4, .int (zkF S i j k)), (3, .int (nI (zMi (zkF S i j) 100 (k + 1)).1)), (6, .int (zkF S i j k)), (0, .ref (a 0)), (1, .int (nI i)), (2, .int (nI j)), (5, .int (nI k))] := by
                rw [show nI (zMi (zkF S i j) 100 (k + 1)).1 = nI k from (by rw [hmi])]; exact hl
              have hl : lv_has ls 7 [(4, .int ((zMi (zkF S i j) 100 (k + 1)).2)), (3, .int (nI (zMi (zkF S i j) 100 (k + 1)).1)), (6, .int (zkF S i j k)), (0, .ref (a 0)), (1, .int (nI i)), (2, .int (nI j)), (5, .int (nI k))] := by
                rw [show (zMi (zkF S i j) 100 (k + 1)).2 = zkF S i j k from (by rw [hmi])]; exact hl
              refine lv_iinc (v := nI (k + 1)) (lv' := [(5, .int (nI (k + 1))), (4, .int ((zMi (zkF S i j) 100 (k + 1)).2)), (3, .int (nI (zMi (zkF S i j) 100 (k + 1)).1)), (6, .int (zkF S i j k)), (0, .ref (a 0)), (1, .int (nI i)), (2, .int (nI j))]) hx hb dX6_kind_103 hl (k := 6) rfl (nI_1 k) (by decide) rfl (fun ls hl => ?_)
              refine lv_goto (tgt := 38) hx hb dX6_kind_106 (by decide) ?_
              exact ih38 (k + 1) (by omega) (by omega) _ _ _ hw (lv_sub hl [4, 5, 6, 2, 1, 0] rfl)
      exact loop38 (_ + 1) 0 (Nat.lt_succ_self _) (Nat.zero_le _) _ _ _ hw (lv_sub hl [3, 4, 5, 2, 1, 0] rfl)
    · have c15 := zb_0.mp c15
      refine lv_aload_n hx hb dX6_kind_18 rfl (lv_at hl 0 rfl) ?_
      refine lv_ldc (v := (-1000000001)) hx hb hown (hts _ ckX6_45) dX6_kind_19 ?_
      refine zcVwi (r := (-1000000001)) hx hb hml hown hts hl.1 hK hE hA lkX6_64 (c_X6_finds x a q g nu (zflat S) (-1000000001) 0 (by decide) (by decide)) ⟨Nat.le_of_ble_eq_true rfl, Nat.le_of_ble_eq_true rfl⟩ ⟨Nat.zero_le _, Nat.zero_le _⟩ hw 0 4 rfl rfl rfl rfl (Nat.le_of_ble_eq_true rfl) dX6_kind_21 (fun H locs hw => ?_)
      have hw : zHw x A s.heap (zMW x a q (zU g 5 0 (g 5 0 + 1)) nu (zflat S)) H locs := hw
      exact zFG.iret hx hb hr hlocks hQ hw rfl dX6_kind_24 (zPM.mk (t := zm_kind S (g 5) h n) (r := (-1000000001)) (S' := S) (fd' := zFd (g 5) 0) (by unfold zm_kind; first | (rw [if_neg (fun h => c15 h.2)]; rfl) | (rw [if_neg (fun h => c5 h.1)]; rfl)) (g 4) (congrArg (fun z => zMW x a q z nu _) (zG1 g 0)))

set_option maxHeartbeats 4000000 in
set_option maxRecDepth 100000 in
theorem c_X6_let (x : zX) (a : Nat → Nat) (q : Nat → Int32) (g : zT) (nu : Nat → Nat → Int64) (S : zT) (n : Int32) (hI : zInv S) : zFG x mX6_let 8 [.ref (a 0), .int n] (zMW x a q g nu (zflat S)) (zPM x a q g nu (zm_let S (g 5) n)) := by
  refine zFG.start RX6 cX6_let 6 (some .int) rfl rfl (by decide +kernel) (Nat.le_of_ble_eq_true rfl) ?_
  intro p e s m ar below meth c ls A Q hx hb hr hml hown hts hlocks hK hE hA hQ hl hw
  have hl : lv_has ls 6 [(0, .ref (a 0)), (1, .int n)] := hl
  have hw : zHw x A s.heap (zMW x a q g nu (zflat S)) s.heap [] := hw
  refine lv_iload_n hx hb dX6_let_0 rfl (lv_at hl 1 rfl) ?_
  refine lv_iconst (v := 1) hx hb dX6_let_1 (by decide) ?_
  refine lv_bipush (v := 26) hx hb dX6_let_2 (by decide) ?_
  refine zcSwi (r := zb (1 ≤ n ∧ n ≤ 26)) hx hb hml hown hts hl.1 hK hE hA lkX6_161 (c_X6_isFar x (zMW x a q g nu (zflat S)) n 1 26) ⟨Nat.le_of_ble_eq_true rfl, Nat.le_of_ble_eq_true rfl⟩ ⟨Nat.zero_le _, Nat.zero_le _⟩ hw rfl rfl (Nat.le_of_ble_eq_true rfl) dX6_let_4 (fun H locs hw => ?_)
  have hw : zHw x A s.heap (zMW x a q g nu (zflat S)) H locs := hw
  refine lv_if_ne (tgt := 17) hx hb dX6_let_7 (by decide) (fun c7 => ?_) (fun c7 => ?_)
  · have c7 := zb_n0.mp c7
    obtain ⟨j, hj, rfl⟩ := zBw_nat (hi := 26) c7 (by decide) (by decide)
    refine lv_iconst (v := 0) hx hb dX6_let_17 (by decide) ?_
    refine lv_istore_n (lv' := [(2, .int 0), (0, .ref (a 0)), (1, .int (nI j))]) hx hb dX6_let_18 rfl hl (by decide) rfl (fun ls hl => ?_)
    refine lv_sipush (v := 999) hx hb dX6_let_19 (by decide) ?_
    refine lv_istore_n (lv' := [(3, .int 999), (2, .int 0), (0, .ref (a 0)), (1, .int (nI j))]) hx hb dX6_let_22 rfl hl (by decide) rfl (fun ls hl => ?_)
    refine lv_aload_n hx hb dX6_let_23 rfl (lv_at hl 2 rfl) ?_
    refine zcVwv hx hb hml hown hts hl.1 hK hE hA lkX6_165 (c_X6_laysAside x a q g nu (zflat S)) ⟨Nat.le_of_ble_eq_true rfl, Nat.le_of_ble_eq_true rfl⟩ ⟨Nat.zero_le _, Nat.zero_le _⟩ hw 0 4 rfl rfl rfl rfl (Nat.le_of_ble_eq_true rfl) dX6_let_24 (fun H locs hw => ?_)
    have hw : zHw x A s.heap (zMW x a q (zV g 4 (zflat S)) nu (zflat S)) H locs := hw
    refine lv_iconst (v := 0) hx hb dX6_let_27 (by decide) ?_
    refine lv_istore (lv' := [(4, .int 0), (3, .int 999), (2, .int 0), (0, .ref (a 0)), (1, .int (nI j))]) hx hb dX6_let_28 hl (by decide) rfl (fun ls hl => ?_)
    have loop30 : ∀ (dd : Nat) (k : Nat), 64 - k < dd → (hk : k ≤ 64) → ∀ (H : Heap) (locs : List Loc) (ls : Array Slot), zHw x A s.heap (zMW x a q (zV g 4 (zflat S)) nu (zflat S)) H locs → lv_has ls 6 [(0, .ref (a 0)), (1, .int (nI j)), (2, .int (nI (zMi (zlF S j) 999 k).1)), (3, .int ((zMi (zlF S j) 999 k).2)), (4, .int (nI k))] → W p x.1 e (zRM 8) s m ar below meth c H locs 0 0 Q (F0 m 30 ls []) := by
      intro dd
      induction dd with
      | zero => intro k hm; exact absurd hm (Nat.not_lt_zero _)
      | succ dd ih30 =>
        intro k hm hk H locs ls hw hl
        refine lv_iload hx hb dX6_let_30 (lv_at hl 4 rfl) ?_
        refine lv_bipush (v := 64) hx hb dX6_let_32 (by decide) ?_
        refine lv_icmp_ge (tgt := 118) hx hb dX6_let_34 (by decide) (fun c34 => ?_) (fun c34 => ?_)
        · have hke : k = 64 := zke (v := 64) rfl (by omega) hk c34
          refine lv_iload_n hx hb dX6_let_118 rfl (lv_at hl 2 rfl) ?_
          exact zFG.iret hx hb hr hlocks hQ hw rfl dX6_let_119 (zPM.mk (t := zm_let S (g 5) (nI j)) (r := nI (zMi (zlF S j) 999 k).1) (S' := S) (fd' := g 5) (by unfold zm_let; rw [if_pos c7, zc_nI (show j < 2147483648 by omega), zlet_z hI j, hke]) (zflat S) (congrArg (fun z => zMW x a q z nu _) (zG2 g (zflat S))))
        · have hkn : k < 64 := zkn (v := 64) rfl (by omega) hk c34
          refine lv_iconst (v := 0) hx hb dX6_let_37 (by decide) ?_
          refine lv_istore (lv' := [(5, .int 0), (0, .ref (a 0)), (1, .int (nI j)), (2, .int (nI (zMi (zlF S j) 999 k).1)), (3, .int ((zMi (zlF S j) 999 k).2)), (4, .int (nI k))]) hx hb dX6_let_38 hl (by decide) rfl (fun ls hl => ?_)
          have loop40 : ∀ (dd : Nat) (r : Nat), 6 - r < dd → (hr6 : r ≤ 6) → ∀ (H : Heap) (locs : List Loc) (ls : Array Slot), zHw x A s.heap (zMW x a q (zV g 4 (zflat S)) nu (zflat (zLa S (nI k) r))) H locs → lv_has ls 6 [(0, .ref (a 0)), (1, .int (nI j)), (2, .int (nI (zMi (zlF S j) 999 k).1)), (3, .int ((zMi (zlF S j) 999 k).2)), (4, .int (nI k)), (5, .int (nI r))] → W p x.1 e (zRM 8) s m ar below meth c H locs 0 0 Q (F0 m 40 ls []) := by
            intro dd
            induction dd with
            | zero => intro r hm; exact absurd hm (Nat.not_lt_zero _)
            | succ dd ih40 =>
              intro r hm hr6 H locs ls hw hl
              refine lv_iload hx hb dX6_let_40 (lv_at hl 5 rfl) ?_
              refine lv_bipush (v := 6) hx hb dX6_let_42 (by decide) ?_
              refine lv_icmp_ge (tgt := 71) hx hb dX6_let_44 (by decide) (fun c44 => ?_) (fun c44 => ?_)
              · have hre : r = 6 := zke (v := 6) rfl (by omega) hr6 c44
                subst hre
                have hJ := zLa_inv hI (nI k) 6 (Nat.le_refl 6)
                refine lv_aload_n hx hb dX6_let_71 rfl (lv_at hl 0 rfl) ?_
                refine lv_iload_n hx hb dX6_let_72 rfl (lv_at hl 1 rfl) ?_
                refine zcVwv hx hb hml hown hts hl.1 hK hE hA lkX6_152 (c_X6_weeksGo x a q (zV g 4 (zflat S)) nu (zLa S (nI k) 6) j hJ (by omega)) ⟨Nat.le_of_ble_eq_true rfl, Nat.le_of_ble_eq_true rfl⟩ ⟨Nat.zero_le _, Nat.zero_le _⟩ hw 0 4 rfl rfl rfl rfl (Nat.le_of_ble_eq_true rfl) dX6_let_73 (fun H locs hw => ?_)
                have hw : zHw x A s.heap (zMW x a q (zV g 4 (zflat S)) nu (zflat (zGo j (zLa S (nI k) 6)))) H locs := hw
                refine lv_aload_n hx hb dX6_let_76 rfl (lv_at hl 0 rfl) ?_
                refine lv_aload_n hx hb dX6_let_77 rfl (lv_at hl 0 rfl) ?_
                refine zcVwi (r := zlF S j k) hx hb hml hown hts hl.1 hK hE hA lkX6_158 (c_X6_worseNow x a q (zV g 4 (zflat S)) nu (zGo j (zLa S (nI k) 6)) (zGo_ok j hJ).1) ⟨Nat.le_of_ble_eq_true rfl, Nat.le_of_ble_eq_true rfl⟩ ⟨Nat.zero_le _, Nat.zero_le _⟩ hw 0 4 rfl rfl rfl rfl (Nat.le_of_ble_eq_true rfl) dX6_let_78 (fun H locs hw => ?_)
                have hw : zHw x A s.heap (zMW x a q (zV g 4 (zflat S)) nu (zflat (zGo j (zLa S (nI k) 6)))) H locs := hw
                refine zcVwi (r := zlF S j k) hx hb hml hown hts hl.1 hK hE hA lkX6_168 (c_X6_takesBack x a q (zV g 4 (zflat S)) nu (zflat (zGo j (zLa S (nI k) 6))) (zlF S j k)) ⟨Nat.le_of_ble_eq_true rfl, Nat.le_of_ble_eq_true rfl⟩ ⟨Nat.zero_le _, Nat.zero_le _⟩ hw 0 4 rfl rfl rfl rfl (Nat.le_of_ble_eq_true rfl) dX6_let_81 (fun H locs hw => ?_)
                have hw : zHw x A s.heap (zMW x a q (zV g 4 (zflat S)) nu (zflat S)) H locs := hw
                refine lv_istore (lv' := [(5, .int (zlF S j k)), (0, .ref (a 0)), (1, .int (nI j)), (2, .int (nI (zMi (zlF S j) 999 k).1)), (3, .int ((zMi (zlF S j) 999 k).2)), (4, .int (nI k))]) hx hb dX6_let_84 hl (by decide) rfl (fun ls hl => ?_)
                refine lv_iload hx hb dX6_let_86 (lv_at hl 0 rfl) ?_
                refine lv_iload_n hx hb dX6_let_88 rfl (lv_at hl 4 rfl) ?_
                refine lv_icmp_ge (tgt := 97) hx hb dX6_let_89 (by decide) (fun c89 => ?_) (fun c89 => ?_)
                · refine lv_iload_n hx hb dX6_let_97 rfl (lv_at hl 3 rfl) ?_
                  refine lv_istore_n (lv' := [(2, .int (nI (zMi (zlF S j) 999 k).1)), (5, .int (zlF S j k)), (0, .ref (a 0)), (1, .int (nI j)), (3, .int ((zMi (zlF S j) 999 k).2)), (4, .int (nI k))]) hx hb dX6_let_98 rfl hl (by decide) rfl (fun ls hl => ?_)
                  refine lv_iload hx hb dX6_let_99 (lv_at hl 1 rfl) ?_
                  refine lv_iload_n hx hb dX6_let_101 rfl (lv_at hl 4 rfl) ?_
                  refine lv_icmp_ge (tgt := 110) hx hb dX6_let_102 (by decide) (fun c102 => ?_) (fun c102 => absurd (c89) c102)
                  refine lv_iload_n hx hb dX6_let_110 rfl (lv_at hl 4 rfl) ?_
                  refine lv_istore_n (lv' := [(3, .int ((zMi (zlF S j) 999 k).2)), (2, .int (nI (zMi (zlF S j) 999 k).1)), (5, .int (zlF S j k)), (0, .ref (a 0)), (1, .int (nI j)), (4, .int (nI k))]) hx hb dX6_let_111 rfl hl (by decide) rfl (fun ls hl => ?_)
                  have hmi := (zMi_neg (Int32.not_lt.mpr c89) : zMi (zlF S j) 999 (k + 1) = _)
                  have hl : lv_has ls 6 [(3, .int ((zMi (zlF S j) 999 k).2)), (2, .int (nI (zMi (zlF S j) 999 (k + 1)).1)), (5, .int (zlF S j k)), (0, .ref (a 0)), (1, .int (nI j)), (4, .int (nI k))] := by
                    rw [show nI (zMi (zlF S j) 999 (k + 1)).1 = nI (zMi (zlF S j) 999 k).1 from (by rw [hmi])]; exact hl
                  have hl : lv_has ls 6 [(3, .int ((zMi (zlF S j) 999 (k + 1)).2)), (2, .int (nI (zMi (zlF S j) 999 (k + 1)).1)), (5, .int (zlF S j k)), (0, .ref (a 0)), (1, .int (nI j)), (4, .int (nI k))] := by
                    rw [show (zMi (zlF S j) 999 (k + 1)).2 = (zMi (zlF S j) 999 k).2 from (by rw [hmi])]; exact hl
                  refine lv_iinc (v := nI (k + 1)) (lv' := [(4, .int (nI (k + 1))), (3, .int ((zMi (zlF S j) 999 (k + 1)).2)), (2, .int (nI (zMi (zlF S j) 999 (k + 1)).1)), (5, .int (zlF S j k)), (0, .ref (a 0)), (1, .int (nI j))]) hx hb dX6_let_112 hl (k := 5) rfl (nI_1 k) (by decide) rfl (fun ls hl => ?_)
                  refine lv_goto (tgt := 30) hx hb dX6_let_115 (by decide) ?_
                  exact ih30 (k + 1) (by omega) (by omega) _ _ _ hw (lv_sub hl [4, 5, 2, 1, 0] rfl)
                · refine lv_iload hx hb dX6_let_92 (lv_at hl 5 rfl) ?_
                  refine lv_goto (tgt := 98) hx hb dX6_let_94 (by decide) ?_
                  refine lv_istore_n (lv' := [(2, .int (nI k)), (5, .int (zlF S j k)), (0, .ref (a 0)), (1, .int (nI j)), (3, .int ((zMi (zlF S j) 999 k).2)), (4, .int (nI k))]) hx hb dX6_let_98 rfl hl (by decide) rfl (fun ls hl => ?_)
                  refine lv_iload hx hb dX6_let_99 (lv_at hl 1 rfl) ?_
                  refine lv_iload_n hx hb dX6_let_101 rfl (lv_at hl 4 rfl) ?_
                  refine lv_icmp_ge (tgt := 110) hx hb dX6_let_102 (by decide) (fun c102 => absurd c102 (c89)) (fun c102 => ?_)
                  refine lv_iload hx hb dX6_let_105 (lv_at hl 1 rfl) ?_
                  refine lv_goto (tgt := 111) hx hb dX6_let_107 (by decide) ?_
                  refine lv_istore_n (lv' := [(3, .int (zlF S j k)), (2, .int (nI k)), (5, .int (zlF S j k)), (0, .ref (a 0)), (1, .int (nI j)), (4, .int (nI k))]) hx hb dX6_let_111 rfl hl (by decide) rfl (fun ls hl => ?_)
                  have hmi := (zMi_pos (Int32.not_le.mp c89) : zMi (zlF S j) 999 (k + 1) = _)
                  have hl : lv_has ls 6 [(3, .int (zlF S j k)), (2, .int (nI (zMi (zlF S j) 999 (k + 1)).1)), (5, .int (zlF S j k)), (0, .ref (a 0)), (1, .int (nI j)), (4, .int (nI k))] := by
                    rw [show nI (zMi (zlF S j) 999 (k + 1)).1 = nI k from (by rw [hmi])]; exact hl
                  have hl : lv_has ls 6 [(3, .int ((zMi (zlF S j) 999 (k + 1)).2)), (2, .int (nI (zMi (zlF S j) 999 (k + 1)).1)), (5, .int (zlF S j k)), (0, .ref (a 0)), (1, .int (nI j)), (4, .int (nI k))] := by
                    rw [show (zMi (zlF S j) 999 (k + 1)).2 = zlF S j k from (by rw [hmi])]; exact hl
                  refine lv_iinc (v := nI (k + 1)) (lv' := [(4, .int (nI (k + 1))), (3, .int ((zMi (zlF S j) 999 (k + 1)).2)), (2, .int (nI (zMi (zlF S j) 999 (k + 1)).1)), (5, .int (zlF S j k)), (0, .ref (a 0)), (1, .int (nI j))]) hx hb dX6_let_112 hl (k := 5) rfl (nI_1 k) (by decide) rfl (fun ls hl => ?_)
                  refine lv_goto (tgt := 30) hx hb dX6_let_115 (by decide) ?_
                  exact ih30 (k + 1) (by omega) (by omega) _ _ _ hw (lv_sub hl [4, 5, 2, 1, 0] rfl)
              · have hrn : r < 6 := zkn (v := 6) rfl (by omega) hr6 c44
                refine lv_aload_n hx hb dX6_let_47 rfl (lv_at hl 0 rfl) ?_
                refine gfX6_7 hx hb hown hts hK hw 0 rfl rfl dX6_let_48 ?_
                refine lv_iload hx hb dX6_let_51 (lv_at hl 5 rfl) ?_
                refine lv_iconst (v := 1) hx hb dX6_let_53 (by decide) ?_
                refine zcSwi (r := nI (7 + 2 * r + 1)) hx hb hml hown hts hl.1 hK hE hA lkX6_41 (c_X6_roadOf x (zMW x a q (zV g 4 (zflat S)) nu (zflat (zLa S (nI k) r))) r 1) ⟨Nat.le_of_ble_eq_true rfl, Nat.le_of_ble_eq_true rfl⟩ ⟨Nat.zero_le _, Nat.zero_le _⟩ hw rfl rfl (Nat.le_of_ble_eq_true rfl) dX6_let_54 (fun H locs hw => ?_)
                have hw : zHw x A s.heap (zMW x a q (zV g 4 (zflat S)) nu (zflat (zLa S (nI k) r))) H locs := hw
                refine lv_iload hx hb dX6_let_57 (lv_at hl 4 rfl) ?_
                refine lv_iload hx hb dX6_let_59 (lv_at hl 5 rfl) ?_
                refine lv_ishr hx hb dX6_let_61 ?_
                refine lv_iconst (v := 1) hx hb dX6_let_62 (by decide) ?_
                refine lv_iand hx hb dX6_let_63 ?_
                refine zias2 (f' := zflat (zU (zLa S (nI k) r) 2 r (((nI k) >>> ((nI r) &&& 31)) &&& 1))) hx hb hK hw 1 0 (7 + 2 * r + 1) rfl rfl rfl (by omega) (by decide) dX6_let_64 (zflat_uro (zLa S (nI k) r) _ (by omega) (by omega)) (fun H locs hw => ?_)
                have hw : zHw x A s.heap (zMW x a q (zV g 4 (zflat S)) nu (zflat (zU (zLa S (nI k) r) 2 r (((nI k) >>> ((nI r) &&& 31)) &&& 1)))) H locs := hw
                refine lv_iinc (v := nI (r + 1)) (lv' := [(5, .int (nI (r + 1))), (0, .ref (a 0)), (1, .int (nI j)), (2, .int (nI (zMi (zlF S j) 999 k).1)), (3, .int ((zMi (zlF S j) 999 k).2)), (4, .int (nI k))]) hx hb dX6_let_65 hl (k := 5) rfl (nI_1 r) (by decide) rfl (fun ls hl => ?_)
                refine lv_goto (tgt := 40) hx hb dX6_let_68 (by decide) ?_
                exact ih40 (r + 1) (by omega) (by omega) _ _ _ hw (lv_sub hl [1, 2, 3, 4, 5, 0] rfl)
          exact loop40 (_ + 1) 0 (Nat.lt_succ_self _) (Nat.zero_le _) _ _ _ hw (lv_sub hl [1, 2, 3, 4, 5, 0] rfl)
    exact loop30 (_ + 1) 0 (Nat.lt_succ_self _) (Nat.zero_le _) _ _ _ hw (lv_sub hl [3, 4, 2, 1, 0] rfl)
  · have c7 := zb_0.mp c7
    refine lv_aload_n hx hb dX6_let_10 rfl (lv_at hl 0 rfl) ?_
    refine lv_ldc (v := (-1000000001)) hx hb hown (hts _ ckX6_45) dX6_let_11 ?_
    refine zcVwi (r := (-1000000001)) hx hb hml hown hts hl.1 hK hE hA lkX6_64 (c_X6_finds x a q g nu (zflat S) (-1000000001) 0 (by decide) (by decide)) ⟨Nat.le_of_ble_eq_true rfl, Nat.le_of_ble_eq_true rfl⟩ ⟨Nat.zero_le _, Nat.zero_le _⟩ hw 0 4 rfl rfl rfl rfl (Nat.le_of_ble_eq_true rfl) dX6_let_13 (fun H locs hw => ?_)
    have hw : zHw x A s.heap (zMW x a q (zU g 5 0 (g 5 0 + 1)) nu (zflat S)) H locs := hw
    exact zFG.iret hx hb hr hlocks hQ hw rfl dX6_let_16 (zPM.mk (t := zm_let S (g 5) n) (r := (-1000000001)) (S' := S) (fd' := zFd (g 5) 0) (by unfold zm_let; rw [if_neg c7]; rfl) (g 4) (congrArg (fun z => zMW x a q z nu _) (zG1 g 0)))

set_option maxHeartbeats 4000000 in
set_option maxRecDepth 100000 in
theorem c_X6_worst (x : zX) (a : Nat → Nat) (q : Nat → Int32) (g : zT) (nu : Nat → Nat → Int64) (S : zT) (n : Int32) (hI : zInv S) : zFG x mX6_worst 8 [.ref (a 0), .int n] (zMW x a q g nu (zflat S)) (zPM x a q g nu (zm_worst S (g 5) n)) := by
  refine zFG.start RX6 cX6_worst 5 (some .int) rfl rfl (by decide +kernel) (Nat.le_of_ble_eq_true rfl) ?_
  intro p e s m ar below meth c ls A Q hx hb hr hml hown hts hlocks hK hE hA hQ hl hw
  have hl : lv_has ls 5 [(0, .ref (a 0)), (1, .int n)] := hl
  have hw : zHw x A s.heap (zMW x a q g nu (zflat S)) s.heap [] := hw
  refine lv_iload_n hx hb dX6_worst_0 rfl (lv_at hl 1 rfl) ?_
  refine lv_iconst (v := 0) hx hb dX6_worst_1 (by decide) ?_
  refine lv_bipush (v := 104) hx hb dX6_worst_2 (by decide) ?_
  refine zcSwi (r := zb (0 ≤ n ∧ n ≤ 104)) hx hb hml hown hts hl.1 hK hE hA lkX6_161 (c_X6_isFar x (zMW x a q g nu (zflat S)) n 0 104) ⟨Nat.le_of_ble_eq_true rfl, Nat.le_of_ble_eq_true rfl⟩ ⟨Nat.zero_le _, Nat.zero_le _⟩ hw rfl rfl (Nat.le_of_ble_eq_true rfl) dX6_worst_4 (fun H locs hw => ?_)
  have hw : zHw x A s.heap (zMW x a q g nu (zflat S)) H locs := hw
  refine lv_if_ne (tgt := 17) hx hb dX6_worst_7 (by decide) (fun c7 => ?_) (fun c7 => ?_)
  · have c7 := zb_n0.mp c7
    obtain ⟨j, hj, rfl⟩ := zBw_nat (hi := 104) c7 (by decide) (by decide)
    refine lv_aload_n hx hb dX6_worst_17 rfl (lv_at hl 0 rfl) ?_
    refine zcVwv hx hb hml hown hts hl.1 hK hE hA lkX6_165 (c_X6_laysAside x a q g nu (zflat S)) ⟨Nat.le_of_ble_eq_true rfl, Nat.le_of_ble_eq_true rfl⟩ ⟨Nat.zero_le _, Nat.zero_le _⟩ hw 0 4 rfl rfl rfl rfl (Nat.le_of_ble_eq_true rfl) dX6_worst_18 (fun H locs hw => ?_)
    have hw : zHw x A s.heap (zMW x a q (zV g 4 (zflat S)) nu (zflat S)) H locs := hw
    have hJ := (zGo_ok j hI).1
    have hJ8 := zN_le hJ
    refine lv_aload_n hx hb dX6_worst_21 rfl (lv_at hl 0 rfl) ?_
    refine lv_iload_n hx hb dX6_worst_22 rfl (lv_at hl 1 rfl) ?_
    refine zcVwv hx hb hml hown hts hl.1 hK hE hA lkX6_152 (c_X6_weeksGo x a q (zV g 4 (zflat S)) nu S j hI (by omega)) ⟨Nat.le_of_ble_eq_true rfl, Nat.le_of_ble_eq_true rfl⟩ ⟨Nat.zero_le _, Nat.zero_le _⟩ hw 0 4 rfl rfl rfl rfl (Nat.le_of_ble_eq_true rfl) dX6_worst_23 (fun H locs hw => ?_)
    have hw : zHw x A s.heap (zMW x a q (zV g 4 (zflat S)) nu (zflat (zGo j S))) H locs := hw
    refine lv_aload_n hx hb dX6_worst_26 rfl (lv_at hl 0 rfl) ?_
    refine lv_iconst (v := 3) hx hb dX6_worst_27 (by decide) ?_
    refine lv_iconst (v := 0) hx hb dX6_worst_28 (by decide) ?_
    refine zcVwi (r := zBi (zopn (zGo j S)) (zN (zGo j S))) hx hb hml hown hts hl.1 hK hE hA lkX6_77 (c_X6_thoseAs x a q (zV g 4 (zflat S)) nu (zGo j S) 3 0 hJ (by decide)) ⟨Nat.le_of_ble_eq_true rfl, Nat.le_of_ble_eq_true rfl⟩ ⟨Nat.zero_le _, Nat.zero_le _⟩ hw 0 4 rfl rfl rfl rfl (Nat.le_of_ble_eq_true rfl) dX6_worst_29 (fun H locs hw => ?_)
    have hw : zHw x A s.heap (zMW x a q (zV g 4 (zflat S)) nu (zflat (zGo j S))) H locs := hw
    refine lv_istore_n (lv' := [(2, .int (zBi (zopn (zGo j S)) (zN (zGo j S)))), (0, .ref (a 0)), (1, .int (nI j))]) hx hb dX6_worst_32 rfl hl (by decide) rfl (fun ls hl => ?_)
    refine lv_iconst (v := 0) hx hb dX6_worst_33 (by decide) ?_
    refine lv_istore_n (lv' := [(3, .int 0), (2, .int (zBi (zopn (zGo j S)) (zN (zGo j S)))), (0, .ref (a 0)), (1, .int (nI j))]) hx hb dX6_worst_34 rfl hl (by decide) rfl (fun ls hl => ?_)
    refine lv_iconst (v := 1) hx hb dX6_worst_35 (by decide) ?_
    refine lv_istore (lv' := [(4, .int 1), (3, .int 0), (2, .int (zBi (zopn (zGo j S)) (zN (zGo j S)))), (0, .ref (a 0)), (1, .int (nI j))]) hx hb dX6_worst_36 hl (by decide) rfl (fun ls hl => ?_)
    have loop38 : ∀ (dd : Nat) (k : Nat), 5 - k < dd → (hk : k ≤ 5) → ∀ (H : Heap) (locs : List Loc) (ls : Array Slot), zHw x A s.heap (zMW x a q (zV g 4 (zflat S)) nu (zflat (zGo j S))) H locs → lv_has ls 5 [(0, .ref (a 0)), (2, .int (zBi (zopn (zGo j S)) (zN (zGo j S)))), (3, .int (nI (zWt (zGo j S) k))), (4, .int (nI (k + 1)))] → W p x.1 e (zRM 8) s m ar below meth c H locs 0 0 Q (F0 m 38 ls []) := by
      intro dd
      induction dd with
      | zero => intro k hm; exact absurd hm (Nat.not_lt_zero _)
      | succ dd ih38 =>
        intro k hm hk H locs ls hw hl
        refine lv_iload hx hb dX6_worst_38 (lv_at hl 3 rfl) ?_
        refine lv_bipush (v := 6) hx hb dX6_worst_40 (by decide) ?_
        refine lv_icmp_ge (tgt := 86) hx hb dX6_worst_42 (by decide) (fun c42 => ?_) (fun c42 => ?_)
        · have hke : k + 1 = 6 := zke (v := 6) rfl (by omega) (by omega) c42
          have hke5 : k = 5 := by omega
          refine lv_aload_n hx hb dX6_worst_86 rfl (lv_at hl 0 rfl) ?_
          refine lv_iload_n hx hb dX6_worst_87 rfl (lv_at hl 2 rfl) ?_
          refine zcVwi (r := nI (zWt (zGo j S) k)) hx hb hml hown hts hl.1 hK hE hA lkX6_168 (c_X6_takesBack x a q (zV g 4 (zflat S)) nu (zflat (zGo j S)) (nI (zWt (zGo j S) k))) ⟨Nat.le_of_ble_eq_true rfl, Nat.le_of_ble_eq_true rfl⟩ ⟨Nat.zero_le _, Nat.zero_le _⟩ hw 0 4 rfl rfl rfl rfl (Nat.le_of_ble_eq_true rfl) dX6_worst_88 (fun H locs hw => ?_)
          have hw : zHw x A s.heap (zMW x a q (zV g 4 (zflat S)) nu (zflat S)) H locs := hw
          exact zFG.iret hx hb hr hlocks hQ hw rfl dX6_worst_91 (zPM.mk (t := zm_worst S (g 5) (nI j)) (r := nI (zWt (zGo j S) k)) (S' := S) (fd' := g 5) (by unfold zm_worst; rw [if_pos c7, zc_nI (show j < 2147483648 by omega), hke5]) (zflat S) (congrArg (fun z => zMW x a q z nu _) (zG2 g (zflat S))))
        · have hkn : k + 1 < 6 := zkn (v := 6) rfl (by omega) (by omega) c42
          refine lv_aload_n hx hb dX6_worst_45 rfl (lv_at hl 0 rfl) ?_
          refine lv_iload_n hx hb dX6_worst_46 rfl (lv_at hl 1 rfl) ?_
          refine lv_aload_n hx hb dX6_worst_47 rfl (lv_at hl 0 rfl) ?_
          refine lv_iconst (v := 1) hx hb dX6_worst_48 (by decide) ?_
          refine lv_iload hx hb dX6_worst_49 (lv_at hl 3 rfl) ?_
          refine zcVwi (r := zBi (fun h => decide ((zGo j S) 4 h = (nI (k + 1)))) (zN (zGo j S))) hx hb hml hown hts hl.1 hK hE hA lkX6_77 (c_X6_thoseAs x a q (zV g 4 (zflat S)) nu (zGo j S) 1 (nI (k + 1)) hJ (by decide)) ⟨Nat.le_of_ble_eq_true rfl, Nat.le_of_ble_eq_true rfl⟩ ⟨Nat.zero_le _, Nat.zero_le _⟩ hw 0 4 rfl rfl rfl rfl (Nat.le_of_ble_eq_true rfl) dX6_worst_51 (fun H locs hw => ?_)
          have hw : zHw x A s.heap (zMW x a q (zV g 4 (zflat S)) nu (zflat (zGo j S))) H locs := hw
          refine lv_iand hx hb dX6_worst_54 ?_
          refine W.eq (g2 := F0 m 55 ls [.int (zBi (fun h => zopn (zGo j S) h && decide ((zGo j S) 4 h = nI (k + 1))) (zN (zGo j S))), .ref (a 0)]) (by rw [zBi_and _ _ hJ8]) ?_
          refine zcVwi (r := zoS (zGo j S) (nI (k + 1))) hx hb hml hown hts hl.1 hK hE hA lkX6_155 (c_X6_sizesOf x a q (zV g 4 (zflat S)) nu (zGo j S) (fun h => zopn (zGo j S) h && decide ((zGo j S) 4 h = nI (k + 1))) hJ) ⟨Nat.le_of_ble_eq_true rfl, Nat.le_of_ble_eq_true rfl⟩ ⟨Nat.zero_le _, Nat.zero_le _⟩ hw 0 4 rfl rfl rfl rfl (Nat.le_of_ble_eq_true rfl) dX6_worst_55 (fun H locs hw => ?_)
          have hw : zHw x A s.heap (zMW x a q (zV g 4 (zflat S)) nu (zflat (zGo j S))) H locs := hw
          refine lv_aload_n hx hb dX6_worst_58 rfl (lv_at hl 0 rfl) ?_
          refine lv_iload_n hx hb dX6_worst_59 rfl (lv_at hl 1 rfl) ?_
          refine lv_aload_n hx hb dX6_worst_60 rfl (lv_at hl 0 rfl) ?_
          refine lv_iconst (v := 1) hx hb dX6_worst_61 (by decide) ?_
          refine lv_iload_n hx hb dX6_worst_62 rfl (lv_at hl 2 rfl) ?_
          refine zcVwi (r := zBi (fun h => decide ((zGo j S) 4 h = (nI (zWt (zGo j S) k)))) (zN (zGo j S))) hx hb hml hown hts hl.1 hK hE hA lkX6_77 (c_X6_thoseAs x a q (zV g 4 (zflat S)) nu (zGo j S) 1 (nI (zWt (zGo j S) k)) hJ (by decide)) ⟨Nat.le_of_ble_eq_true rfl, Nat.le_of_ble_eq_true rfl⟩ ⟨Nat.zero_le _, Nat.zero_le _⟩ hw 0 4 rfl rfl rfl rfl (Nat.le_of_ble_eq_true rfl) dX6_worst_63 (fun H locs hw => ?_)
          have hw : zHw x A s.heap (zMW x a q (zV g 4 (zflat S)) nu (zflat (zGo j S))) H locs := hw
          refine lv_iand hx hb dX6_worst_66 ?_
          refine W.eq (g2 := F0 m 67 ls [.int (zBi (fun h => zopn (zGo j S) h && decide ((zGo j S) 4 h = nI (zWt (zGo j S) k))) (zN (zGo j S))), .ref (a 0), .int (zoS (zGo j S) (nI (k + 1)))]) (by rw [zBi_and _ _ hJ8]) ?_
          refine zcVwi (r := zoS (zGo j S) (nI (zWt (zGo j S) k))) hx hb hml hown hts hl.1 hK hE hA lkX6_155 (c_X6_sizesOf x a q (zV g 4 (zflat S)) nu (zGo j S) (fun h => zopn (zGo j S) h && decide ((zGo j S) 4 h = nI (zWt (zGo j S) k))) hJ) ⟨Nat.le_of_ble_eq_true rfl, Nat.le_of_ble_eq_true rfl⟩ ⟨Nat.zero_le _, Nat.zero_le _⟩ hw 0 4 rfl rfl rfl rfl (Nat.le_of_ble_eq_true rfl) dX6_worst_67 (fun H locs hw => ?_)
          have hw : zHw x A s.heap (zMW x a q (zV g 4 (zflat S)) nu (zflat (zGo j S))) H locs := hw
          refine lv_icmp_le (tgt := 78) hx hb dX6_worst_70 (by decide) (fun c70 => ?_) (fun c70 => ?_)
          · refine lv_iload_n hx hb dX6_worst_78 rfl (lv_at hl 2 rfl) ?_
            refine lv_istore_n (lv' := [(3, .int (nI (zWt (zGo j S) k))), (0, .ref (a 0)), (2, .int (zBi (zopn (zGo j S)) (zN (zGo j S)))), (4, .int (nI (k + 1)))]) hx hb dX6_worst_79 rfl hl (by decide) rfl (fun ls hl => ?_)
            have hl : lv_has ls 5 [(3, .int (nI (zWt (zGo j S) (k + 1)))), (0, .ref (a 0)), (2, .int (zBi (zopn (zGo j S)) (zN (zGo j S)))), (4, .int (nI (k + 1)))] := by
              rw [show nI (zWt (zGo j S) (k + 1)) = nI (zWt (zGo j S) k) from (congrArg nI (if_neg (Int32.not_lt.mpr c70)))]; exact hl
            refine lv_iinc (v := nI (k + 1 + 1)) (lv' := [(4, .int (nI (k + 1 + 1))), (3, .int (nI (zWt (zGo j S) (k + 1)))), (0, .ref (a 0)), (2, .int (zBi (zopn (zGo j S)) (zN (zGo j S))))]) hx hb dX6_worst_80 hl (k := 3) rfl (nI_1 (k + 1)) (by decide) rfl (fun ls hl => ?_)
            refine lv_goto (tgt := 38) hx hb dX6_worst_83 (by decide) ?_
            exact ih38 (k + 1) (by omega) (by omega) _ _ _ hw (lv_sub hl [2, 3, 1, 0] rfl)
          · refine lv_iload hx hb dX6_worst_73 (lv_at hl 3 rfl) ?_
            refine lv_goto (tgt := 79) hx hb dX6_worst_75 (by decide) ?_
            refine lv_istore_n (lv' := [(3, .int (nI (k + 1))), (0, .ref (a 0)), (2, .int (zBi (zopn (zGo j S)) (zN (zGo j S)))), (4, .int (nI (k + 1)))]) hx hb dX6_worst_79 rfl hl (by decide) rfl (fun ls hl => ?_)
            have hl : lv_has ls 5 [(3, .int (nI (zWt (zGo j S) (k + 1)))), (0, .ref (a 0)), (2, .int (zBi (zopn (zGo j S)) (zN (zGo j S)))), (4, .int (nI (k + 1)))] := by
              rw [show nI (zWt (zGo j S) (k + 1)) = nI (k + 1) from (congrArg nI (if_pos (Int32.not_le.mp c70)))]; exact hl
            refine lv_iinc (v := nI (k + 1 + 1)) (lv' := [(4, .int (nI (k + 1 + 1))), (3, .int (nI (zWt (zGo j S) (k + 1)))), (0, .ref (a 0)), (2, .int (zBi (zopn (zGo j S)) (zN (zGo j S))))]) hx hb dX6_worst_80 hl (k := 3) rfl (nI_1 (k + 1)) (by decide) rfl (fun ls hl => ?_)
            refine lv_goto (tgt := 38) hx hb dX6_worst_83 (by decide) ?_
            exact ih38 (k + 1) (by omega) (by omega) _ _ _ hw (lv_sub hl [2, 3, 1, 0] rfl)
    exact loop38 (_ + 1) 0 (Nat.lt_succ_self _) (Nat.zero_le _) _ _ _ hw (lv_sub hl [3, 2, 1, 0] rfl)
  · have c7 := zb_0.mp c7
    refine lv_aload_n hx hb dX6_worst_10 rfl (lv_at hl 0 rfl) ?_
    refine lv_ldc (v := (-1000000001)) hx hb hown (hts _ ckX6_45) dX6_worst_11 ?_
    refine zcVwi (r := (-1000000001)) hx hb hml hown hts hl.1 hK hE hA lkX6_64 (c_X6_finds x a q g nu (zflat S) (-1000000001) 0 (by decide) (by decide)) ⟨Nat.le_of_ble_eq_true rfl, Nat.le_of_ble_eq_true rfl⟩ ⟨Nat.zero_le _, Nat.zero_le _⟩ hw 0 4 rfl rfl rfl rfl (Nat.le_of_ble_eq_true rfl) dX6_worst_13 (fun H locs hw => ?_)
    have hw : zHw x A s.heap (zMW x a q (zU g 5 0 (g 5 0 + 1)) nu (zflat S)) H locs := hw
    exact zFG.iret hx hb hr hlocks hQ hw rfl dX6_worst_16 (zPM.mk (t := zm_worst S (g 5) n) (r := (-1000000001)) (S' := S) (fd' := zFd (g 5) 0) (by unfold zm_worst; rw [if_neg c7]; rfl) (g 4) (congrArg (fun z => zMW x a q z nu _) (zG1 g 0)))
