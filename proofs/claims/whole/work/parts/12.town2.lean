set_option maxHeartbeats 4000000 in
set_option maxRecDepth 100000 in
theorem c_X3_firstToFill (x : zX) (t : Nat → Nat) (S : zT) (lk : Int32) (hI : zInv S) : zFF x mX3_firstToFill 2 [.ref (t 0)] (zTW x t S lk) (some (.int (zo (zNb S (zN S))))) (zTW x t S (zLk S lk (zN S))) := by
  obtain ⟨n, hn, h0⟩ := hI.holes
  have hN : zN S = n := zN_of hn h0
  refine zFG.start RX3 cX3_firstToFill 4 (some .int) rfl rfl (by decide +kernel) (Nat.le_of_ble_eq_true rfl) ?_
  intro p e s m ar below meth c ls A Q hx hb hr hml hown hts hlocks hK hE hA hQ hl hw
  have hl : lv_has ls 4 [(0, .ref (t 0))] := hl
  have hw : zHw x A s.heap (zTW x t S lk) s.heap [] := hw
  refine lv_iconst (v := (-1)) hx hb dX3_firstToFill_0 (by decide) ?_
  refine lv_istore_n (lv' := [(1, .int (-1)), (0, .ref (t 0))]) hx hb dX3_firstToFill_1 rfl hl (by decide) rfl (fun ls hl => ?_)
  refine lv_iconst (v := 0) hx hb dX3_firstToFill_2 (by decide) ?_
  refine lv_istore_n (lv' := [(2, .int 0), (1, .int (-1)), (0, .ref (t 0))]) hx hb dX3_firstToFill_3 rfl hl (by decide) rfl (fun ls hl => ?_)
  have loop4 : ∀ (dd : Nat) (k : Nat), n - k < dd → (hk : k ≤ n) → ∀ (H : Heap) (locs : List Loc) (ls : Array Slot), zHw x A s.heap (zTW x t S (zLk S lk k)) H locs → lv_has ls 4 [(0, .ref (t 0)), (1, .int (zo (zNb S k))), (2, .int (nI k))] → W p x.1 e (zRM 2) s m ar below meth c H locs 0 0 Q (F0 m 4 ls []) := by
    intro dd
    induction dd with
    | zero => intro k hm; exact absurd hm (Nat.not_lt_zero _)
    | succ dd ih4 =>
      intro k hm hk H locs ls hw hl
      refine lv_iload_n hx hb dX3_firstToFill_4 rfl (lv_at hl 2 rfl) ?_
      refine lv_aload_n hx hb dX3_firstToFill_5 rfl (lv_at hl 0 rfl) ?_
      refine gfX3_40 hx hb hown hts hK hw 0 rfl rfl dX3_firstToFill_6 ?_
      refine lv_icmp_ge (tgt := 91) hx hb dX3_firstToFill_9 (by decide) (fun c9 => ?_) (fun c9 => ?_)
      · have hke : k = n := zke h0 (by omega) hk c9
        refine lv_iload_n hx hb dX3_firstToFill_91 rfl (lv_at hl 1 rfl) ?_
        exact zFG.iret hx hb hr hlocks hQ hw rfl dX3_firstToFill_92 ⟨zsi (by rw [hN, ← hke]), by rw [hN, ← hke]⟩
      · have hkn : k < n := zkn h0 (by omega) hk c9
        refine lv_aload_n hx hb dX3_firstToFill_12 rfl (lv_at hl 0 rfl) ?_
        refine gfX3_52 hx hb hown hts hK hw 0 rfl rfl dX3_firstToFill_13 ?_
        refine lv_iload_n hx hb dX3_firstToFill_16 rfl (lv_at hl 2 rfl) ?_
        refine zial hx hb hK hw 6 0 k rfl rfl rfl (by omega) (by decide) dX3_firstToFill_17 ?_
        refine lv_if_ne (tgt := 85) hx hb dX3_firstToFill_18 (by decide) (fun c18 => ?_) (fun c18 => ?_)
        · have hl : lv_has ls 4 [(0, .ref (t 0)), (1, .int (zo (zNb S (k + 1)))), (2, .int (nI k))] := by
            rw [show zo (zNb S (k + 1)) = zo (zNb S k) from (by first | (rw [zNb_neg (fun h => c18 h.1.1.1)]) | (rw [zNb_neg (fun h => h.1.1.2 c26)]) | (rw [zNb_neg (fun h => c47 h.1.2)]) | (rw [zNb_pos ⟨⟨c18, c26⟩, c47⟩ (by rw [hbb]; first | rfl | exact decide_eq_true c80)]; rfl) | (rw [zNb_neg (fun h => by have h2 := h.2; rw [hbb] at h2; exact c80 (of_decide_eq_true h2)), hbb]; rfl))]; exact hl
          have hw : zHw x A s.heap (zTW x t S (zLk S lk (k + 1))) H locs := by
            rw [show zLk S lk (k + 1) = zLk S lk k from (by first | (rw [zLk_neg (fun h => c18 h.1.1)]) | (rw [zLk_neg (fun h => h.1.2 c26)]) | (rw [zLk_neg (fun h => c47p h.2)]) | (rw [zLk_pos ⟨⟨c18, c26⟩, c47p⟩]))]; exact hw
          refine lv_iinc (v := nI (k + 1)) (lv' := [(2, .int (nI (k + 1))), (0, .ref (t 0)), (1, .int (zo (zNb S (k + 1))))]) hx hb dX3_firstToFill_85 hl (k := 2) rfl (nI_1 k) (by decide) rfl (fun ls hl => ?_)
          refine lv_goto (tgt := 4) hx hb dX3_firstToFill_88 (by decide) ?_
          exact ih4 (k + 1) (by omega) (by omega) _ _ _ hw (lv_sub hl [1, 2, 0] rfl)
        · refine lv_aload_n hx hb dX3_firstToFill_21 rfl (lv_at hl 0 rfl) ?_
          refine lv_iload_n hx hb dX3_firstToFill_22 rfl (lv_at hl 2 rfl) ?_
          refine zcVwi (r := zb (zLg S k)) hx hb hml hown hts hl.1 hK hE hA lkX3_85 (c_X3_isLetGo x t S (zLk S lk k) k hI (by omega)) ⟨Nat.le_of_ble_eq_true rfl, Nat.le_of_ble_eq_true rfl⟩ ⟨Nat.zero_le _, Nat.zero_le _⟩ hw 0 2 rfl rfl rfl rfl (Nat.le_of_ble_eq_true rfl) dX3_firstToFill_23 (fun H locs hw => ?_)
          have hw : zHw x A s.heap (zTW x t S (zLk S lk k)) H locs := hw
          refine lv_if_eq (tgt := 32) hx hb dX3_firstToFill_26 (by decide) (fun c26 => ?_) (fun c26 => ?_)
          · have c26 := zb_0.mp c26
            refine lv_aload_n hx hb dX3_firstToFill_32 rfl (lv_at hl 0 rfl) ?_
            refine lv_iload_n hx hb dX3_firstToFill_33 rfl (lv_at hl 2 rfl) ?_
            refine lv_aload_n hx hb dX3_firstToFill_34 rfl (lv_at hl 0 rfl) ?_
            refine gfX3_24 hx hb hown hts hK hw 0 rfl rfl dX3_firstToFill_35 ?_
            refine zcVwi (r := zPs S k (S 0 5)) hx hb hml hown hts hl.1 hK hE hA lkX3_88 (c_X3_price x t S (zLk S lk k) k (S 0 5) (by omega)) ⟨Nat.le_of_ble_eq_true rfl, Nat.le_of_ble_eq_true rfl⟩ ⟨Nat.zero_le _, Nat.zero_le _⟩ hw 0 2 rfl rfl rfl rfl (Nat.le_of_ble_eq_true rfl) dX3_firstToFill_38 (fun H locs hw => ?_)
            have hw : zHw x A s.heap (zTW x t S (zLk S lk k)) H locs := hw
            refine lv_istore_n (lv' := [(3, .int (zPs S k (S 0 5))), (0, .ref (t 0)), (1, .int (zo (zNb S k))), (2, .int (nI k))]) hx hb dX3_firstToFill_41 rfl hl (by decide) rfl (fun ls hl => ?_)
            refine lv_iload_n hx hb dX3_firstToFill_42 rfl (lv_at hl 0 rfl) ?_
            refine lv_aload_n hx hb dX3_firstToFill_43 rfl (lv_at hl 1 rfl) ?_
            refine gfX3_15 hx hb hown hts hK hw 0 rfl rfl dX3_firstToFill_44 ?_
            refine lv_icmp_le (tgt := 70) hx hb dX3_firstToFill_47 (by decide) (fun c47 => ?_) (fun c47 => ?_)
            · have c47p : ¬ S 0 2 < zPs S k (S 0 5) := Int32.not_lt.mpr c47
              rcases hbb : zNb S k with _ | b
              · have hl : lv_has ls 4 [(3, .int (zPs S k (S 0 5))), (0, .ref (t 0)), (1, .int (-1)), (2, .int (nI k))] := by
                  rw [show (-1) = zo (zNb S k) from (by rw [hbb]; rfl)]; exact hl
                refine lv_iload_n hx hb dX3_firstToFill_70 rfl (lv_at hl 2 rfl) ?_
                refine lv_if_lt (tgt := 83) hx hb dX3_firstToFill_71 (by decide) (fun c71 => ?_) (fun c71 => absurd (by decide) c71)
                refine lv_iload_n hx hb dX3_firstToFill_83 rfl (lv_at hl 3 rfl) ?_
                refine lv_istore_n (lv' := [(1, .int (nI k)), (3, .int (zPs S k (S 0 5))), (0, .ref (t 0)), (2, .int (nI k))]) hx hb dX3_firstToFill_84 rfl hl (by decide) rfl (fun ls hl => ?_)
                have hl : lv_has ls 4 [(1, .int (zo (zNb S (k + 1)))), (3, .int (zPs S k (S 0 5))), (0, .ref (t 0)), (2, .int (nI k))] := by
                  rw [show zo (zNb S (k + 1)) = nI k from (by first | (rw [zNb_neg (fun h => c18 h.1.1.1)]) | (rw [zNb_neg (fun h => h.1.1.2 c26)]) | (rw [zNb_neg (fun h => c47 h.1.2)]) | (rw [zNb_pos ⟨⟨c18, c26⟩, c47⟩ (by rw [hbb]; first | rfl | exact decide_eq_true c80)]; rfl) | (rw [zNb_neg (fun h => by have h2 := h.2; rw [hbb] at h2; exact c80 (of_decide_eq_true h2)), hbb]; rfl))]; exact hl
                have hw : zHw x A s.heap (zTW x t S (zLk S lk (k + 1))) H locs := by
                  rw [show zLk S lk (k + 1) = zLk S lk k from (by first | (rw [zLk_neg (fun h => c18 h.1.1)]) | (rw [zLk_neg (fun h => h.1.2 c26)]) | (rw [zLk_neg (fun h => c47p h.2)]) | (rw [zLk_pos ⟨⟨c18, c26⟩, c47p⟩]))]; exact hw
                refine lv_iinc (v := nI (k + 1)) (lv' := [(2, .int (nI (k + 1))), (1, .int (zo (zNb S (k + 1)))), (3, .int (zPs S k (S 0 5))), (0, .ref (t 0))]) hx hb dX3_firstToFill_85 hl (k := 3) rfl (nI_1 k) (by decide) rfl (fun ls hl => ?_)
                refine lv_goto (tgt := 4) hx hb dX3_firstToFill_88 (by decide) ?_
                exact ih4 (k + 1) (by omega) (by omega) _ _ _ hw (lv_sub hl [3, 1, 0] rfl)
              · have hbk := (zNb_lt S k b hbb).1
                have hl : lv_has ls 4 [(3, .int (zPs S k (S 0 5))), (0, .ref (t 0)), (1, .int (nI b)), (2, .int (nI k))] := by
                  rw [show nI b = zo (zNb S k) from (by rw [hbb]; rfl)]; exact hl
                refine lv_iload_n hx hb dX3_firstToFill_70 rfl (lv_at hl 2 rfl) ?_
                refine lv_if_lt (tgt := 83) hx hb dX3_firstToFill_71 (by decide) (fun c71 => absurd c71 (nI_pos (by omega))) (fun c71 => ?_)
                refine lv_aload_n hx hb dX3_firstToFill_74 rfl (lv_at hl 1 rfl) ?_
                refine lv_iload_n hx hb dX3_firstToFill_75 rfl (lv_at hl 3 rfl) ?_
                refine lv_iload_n hx hb dX3_firstToFill_76 rfl (lv_at hl 2 rfl) ?_
                refine zcVwi (r := zb (zAh S k b)) hx hb hml hown hts hl.1 hK hE hA lkX3_96 (c_X3_comesAheadOf x t S (zLk S lk k) k b (by omega) (by omega)) ⟨Nat.le_of_ble_eq_true rfl, Nat.le_of_ble_eq_true rfl⟩ ⟨Nat.zero_le _, Nat.zero_le _⟩ hw 0 2 rfl rfl rfl rfl (Nat.le_of_ble_eq_true rfl) dX3_firstToFill_77 (fun H locs hw => ?_)
                have hw : zHw x A s.heap (zTW x t S (zLk S lk k)) H locs := hw
                refine lv_if_eq (tgt := 85) hx hb dX3_firstToFill_80 (by decide) (fun c80 => ?_) (fun c80 => ?_)
                · have c80 := zb_0.mp c80
                  have hl : lv_has ls 4 [(3, .int (zPs S k (S 0 5))), (0, .ref (t 0)), (1, .int (zo (zNb S (k + 1)))), (2, .int (nI k))] := by
                    rw [show zo (zNb S (k + 1)) = nI b from (by first | (rw [zNb_neg (fun h => c18 h.1.1.1)]) | (rw [zNb_neg (fun h => h.1.1.2 c26)]) | (rw [zNb_neg (fun h => c47 h.1.2)]) | (rw [zNb_pos ⟨⟨c18, c26⟩, c47⟩ (by rw [hbb]; first | rfl | exact decide_eq_true c80)]; rfl) | (rw [zNb_neg (fun h => by have h2 := h.2; rw [hbb] at h2; exact c80 (of_decide_eq_true h2)), hbb]; rfl))]; exact hl
                  have hw : zHw x A s.heap (zTW x t S (zLk S lk (k + 1))) H locs := by
                    rw [show zLk S lk (k + 1) = zLk S lk k from (by first | (rw [zLk_neg (fun h => c18 h.1.1)]) | (rw [zLk_neg (fun h => h.1.2 c26)]) | (rw [zLk_neg (fun h => c47p h.2)]) | (rw [zLk_pos ⟨⟨c18, c26⟩, c47p⟩]))]; exact hw
                  refine lv_iinc (v := nI (k + 1)) (lv' := [(2, .int (nI (k + 1))), (3, .int (zPs S k (S 0 5))), (0, .ref (t 0)), (1, .int (zo (zNb S (k + 1))))]) hx hb dX3_firstToFill_85 hl (k := 3) rfl (nI_1 k) (by decide) rfl (fun ls hl => ?_)
                  refine lv_goto (tgt := 4) hx hb dX3_firstToFill_88 (by decide) ?_
                  exact ih4 (k + 1) (by omega) (by omega) _ _ _ hw (lv_sub hl [2, 3, 0] rfl)
                · have c80 := zb_n0.mp c80
                  refine lv_iload_n hx hb dX3_firstToFill_83 rfl (lv_at hl 3 rfl) ?_
                  refine lv_istore_n (lv' := [(1, .int (nI k)), (3, .int (zPs S k (S 0 5))), (0, .ref (t 0)), (2, .int (nI k))]) hx hb dX3_firstToFill_84 rfl hl (by decide) rfl (fun ls hl => ?_)
                  have hl : lv_has ls 4 [(1, .int (zo (zNb S (k + 1)))), (3, .int (zPs S k (S 0 5))), (0, .ref (t 0)), (2, .int (nI k))] := by
                    rw [show zo (zNb S (k + 1)) = nI k from (by first | (rw [zNb_neg (fun h => c18 h.1.1.1)]) | (rw [zNb_neg (fun h => h.1.1.2 c26)]) | (rw [zNb_neg (fun h => c47 h.1.2)]) | (rw [zNb_pos ⟨⟨c18, c26⟩, c47⟩ (by rw [hbb]; first | rfl | exact decide_eq_true c80)]; rfl) | (rw [zNb_neg (fun h => by have h2 := h.2; rw [hbb] at h2; exact c80 (of_decide_eq_true h2)), hbb]; rfl))]; exact hl
                  have hw : zHw x A s.heap (zTW x t S (zLk S lk (k + 1))) H locs := by
                    rw [show zLk S lk (k + 1) = zLk S lk k from (by first | (rw [zLk_neg (fun h => c18 h.1.1)]) | (rw [zLk_neg (fun h => h.1.2 c26)]) | (rw [zLk_neg (fun h => c47p h.2)]) | (rw [zLk_pos ⟨⟨c18, c26⟩, c47p⟩]))]; exact hw
                  refine lv_iinc (v := nI (k + 1)) (lv' := [(2, .int (nI (k + 1))), (1, .int (zo (zNb S (k + 1)))), (3, .int (zPs S k (S 0 5))), (0, .ref (t 0))]) hx hb dX3_firstToFill_85 hl (k := 3) rfl (nI_1 k) (by decide) rfl (fun ls hl => ?_)
                  refine lv_goto (tgt := 4) hx hb dX3_firstToFill_88 (by decide) ?_
                  exact ih4 (k + 1) (by omega) (by omega) _ _ _ hw (lv_sub hl [3, 1, 0] rfl)
            · have c47p : S 0 2 < zPs S k (S 0 5) := Int32.not_le.mp c47
              refine lv_aload_n hx hb dX3_firstToFill_50 rfl (lv_at hl 1 rfl) ?_
              refine lv_aload_n hx hb dX3_firstToFill_51 rfl (lv_at hl 1 rfl) ?_
              refine gfX3_30 hx hb hown hts hK hw 0 rfl rfl dX3_firstToFill_52 ?_
              refine lv_iload_n hx hb dX3_firstToFill_55 rfl (lv_at hl 0 rfl) ?_
              refine lv_aload_n hx hb dX3_firstToFill_56 rfl (lv_at hl 1 rfl) ?_
              refine gfX3_15 hx hb hown hts hK hw 0 rfl rfl dX3_firstToFill_57 ?_
              refine lv_isub hx hb dX3_firstToFill_60 ?_
              refine zmin hx hb (hml.trans hl.1.symm) hown hts lkX3_91 zmath ⟨Nat.le_of_ble_eq_true rfl, Nat.le_of_ble_eq_true rfl, Nat.zero_le _, Nat.zero_le _⟩ dX3_firstToFill_61 ?_
              refine pfX3_30 hx hb hown hts hK hw 0 rfl (Nat.le_of_ble_eq_true rfl) dX3_firstToFill_64 (fun H locs hw => ?_)
              have hw : zHw x A s.heap (zTW x t S (if (zPs S k (S 0 5)) - (S 0 2) < zLk S lk k then (zPs S k (S 0 5)) - (S 0 2) else zLk S lk k)) H locs := hw
              refine lv_goto (tgt := 85) hx hb dX3_firstToFill_67 (by decide) ?_
              have hl : lv_has ls 4 [(3, .int (zPs S k (S 0 5))), (0, .ref (t 0)), (1, .int (zo (zNb S (k + 1)))), (2, .int (nI k))] := by
                rw [show zo (zNb S (k + 1)) = zo (zNb S k) from (by first | (rw [zNb_neg (fun h => c18 h.1.1.1)]) | (rw [zNb_neg (fun h => h.1.1.2 c26)]) | (rw [zNb_neg (fun h => c47 h.1.2)]) | (rw [zNb_pos ⟨⟨c18, c26⟩, c47⟩ (by rw [hbb]; first | rfl | exact decide_eq_true c80)]; rfl) | (rw [zNb_neg (fun h => by have h2 := h.2; rw [hbb] at h2; exact c80 (of_decide_eq_true h2)), hbb]; rfl))]; exact hl
              have hw : zHw x A s.heap (zTW x t S (zLk S lk (k + 1))) H locs := by
                rw [show zLk S lk (k + 1) = if (zPs S k (S 0 5)) - (S 0 2) < zLk S lk k then (zPs S k (S 0 5)) - (S 0 2) else zLk S lk k from (by first | (rw [zLk_neg (fun h => c18 h.1.1)]) | (rw [zLk_neg (fun h => h.1.2 c26)]) | (rw [zLk_neg (fun h => c47p h.2)]) | (rw [zLk_pos ⟨⟨c18, c26⟩, c47p⟩]))]; exact hw
              refine lv_iinc (v := nI (k + 1)) (lv' := [(2, .int (nI (k + 1))), (3, .int (zPs S k (S 0 5))), (0, .ref (t 0)), (1, .int (zo (zNb S (k + 1))))]) hx hb dX3_firstToFill_85 hl (k := 3) rfl (nI_1 k) (by decide) rfl (fun ls hl => ?_)
              refine lv_goto (tgt := 4) hx hb dX3_firstToFill_88 (by decide) ?_
              exact ih4 (k + 1) (by omega) (by omega) _ _ _ hw (lv_sub hl [2, 3, 0] rfl)
          · have c26 := zb_n0.mp c26
            refine lv_goto (tgt := 85) hx hb dX3_firstToFill_29 (by decide) ?_
            have hl : lv_has ls 4 [(0, .ref (t 0)), (1, .int (zo (zNb S (k + 1)))), (2, .int (nI k))] := by
              rw [show zo (zNb S (k + 1)) = zo (zNb S k) from (by first | (rw [zNb_neg (fun h => c18 h.1.1.1)]) | (rw [zNb_neg (fun h => h.1.1.2 c26)]) | (rw [zNb_neg (fun h => c47 h.1.2)]) | (rw [zNb_pos ⟨⟨c18, c26⟩, c47⟩ (by rw [hbb]; first | rfl | exact decide_eq_true c80)]; rfl) | (rw [zNb_neg (fun h => by have h2 := h.2; rw [hbb] at h2; exact c80 (of_decide_eq_true h2)), hbb]; rfl))]; exact hl
            have hw : zHw x A s.heap (zTW x t S (zLk S lk (k + 1))) H locs := by
              rw [show zLk S lk (k + 1) = zLk S lk k from (by first | (rw [zLk_neg (fun h => c18 h.1.1)]) | (rw [zLk_neg (fun h => h.1.2 c26)]) | (rw [zLk_neg (fun h => c47p h.2)]) | (rw [zLk_pos ⟨⟨c18, c26⟩, c47p⟩]))]; exact hw
            refine lv_iinc (v := nI (k + 1)) (lv' := [(2, .int (nI (k + 1))), (0, .ref (t 0)), (1, .int (zo (zNb S (k + 1))))]) hx hb dX3_firstToFill_85 hl (k := 2) rfl (nI_1 k) (by decide) rfl (fun ls hl => ?_)
            refine lv_goto (tgt := 4) hx hb dX3_firstToFill_88 (by decide) ?_
            exact ih4 (k + 1) (by omega) (by omega) _ _ _ hw (lv_sub hl [1, 2, 0] rfl)
  exact loop4 (_ + 1) 0 (Nat.lt_succ_self _) (Nat.zero_le _) _ _ _ hw (lv_sub hl [2, 1, 0] rfl)

set_option maxHeartbeats 4000000 in
set_option maxRecDepth 100000 in
theorem c_X3_fillNow (x : zX) (t : Nat → Nat) (S : zT) (lk : Int32) (h : Nat) (how : Int32) (hh : h < 8) : zFF x mX3_fillNow 2 [.ref (t 0), .int (nI h), .int how] (zTW x t S lk) none (zTW x t (zFi S h how) lk) := by
  refine zFG.start RX3 cX3_fillNow 4 none rfl rfl (by decide +kernel) (Nat.le_of_ble_eq_true rfl) ?_
  intro p e s m ar below meth c ls A Q hx hb hr hml hown hts hlocks hK hE hA hQ hl hw
  have hl : lv_has ls 4 [(0, .ref (t 0)), (1, .int (nI h)), (2, .int how)] := hl
  have hw : zHw x A s.heap (zTW x t S lk) s.heap [] := hw
  refine lv_aload_n hx hb dX3_fillNow_0 rfl (lv_at hl 0 rfl) ?_
  refine lv_iload_n hx hb dX3_fillNow_1 rfl (lv_at hl 1 rfl) ?_
  refine lv_iload_n hx hb dX3_fillNow_2 rfl (lv_at hl 2 rfl) ?_
  refine zcVwi (r := zPs S h how) hx hb hml hown hts hl.1 hK hE hA lkX3_88 (c_X3_price x t S lk h how (by omega)) ⟨Nat.le_of_ble_eq_true rfl, Nat.le_of_ble_eq_true rfl⟩ ⟨Nat.zero_le _, Nat.zero_le _⟩ hw 0 2 rfl rfl rfl rfl (Nat.le_of_ble_eq_true rfl) dX3_fillNow_3 (fun H locs hw => ?_)
  have hw : zHw x A s.heap (zTW x t S lk) H locs := hw
  refine lv_istore_n (lv' := [(3, .int (zPs S h how)), (0, .ref (t 0)), (1, .int (nI h)), (2, .int how)]) hx hb dX3_fillNow_6 rfl hl (by decide) rfl (fun ls hl => ?_)
  refine lv_aload_n hx hb dX3_fillNow_7 rfl (lv_at hl 1 rfl) ?_
  refine lv_dup hx hb dX3_fillNow_8 rfl ?_
  refine gfX3_15 hx hb hown hts hK hw 0 rfl rfl dX3_fillNow_9 ?_
  refine lv_iload_n hx hb dX3_fillNow_12 rfl (lv_at hl 0 rfl) ?_
  refine lv_isub hx hb dX3_fillNow_13 ?_
  refine pfX3_15 hx hb hown hts hK hw 0 rfl (Nat.le_of_ble_eq_true rfl) dX3_fillNow_14 (fun H locs hw => ?_)
  have hw : zHw x A s.heap (zTW x t (zU S 0 2 ((S 0 2) - (zPs S h how))) lk) H locs := hw
  refine lv_aload_n hx hb dX3_fillNow_17 rfl (lv_at hl 1 rfl) ?_
  refine lv_aload_n hx hb dX3_fillNow_18 rfl (lv_at hl 1 rfl) ?_
  refine gfX3_27 hx hb hown hts hK hw 0 rfl rfl dX3_fillNow_19 ?_
  refine lv_iload_n hx hb dX3_fillNow_22 rfl (lv_at hl 0 rfl) ?_
  refine lv_iadd hx hb dX3_fillNow_23 ?_
  refine lv_ldc (v := 9999999) hx hb hown (hts _ ckX3_100) dX3_fillNow_24 ?_
  refine zmin hx hb (hml.trans hl.1.symm) hown hts lkX3_91 zmath ⟨Nat.le_of_ble_eq_true rfl, Nat.le_of_ble_eq_true rfl, Nat.zero_le _, Nat.zero_le _⟩ dX3_fillNow_26 ?_
  refine pfX3_27 hx hb hown hts hK hw 0 rfl (Nat.le_of_ble_eq_true rfl) dX3_fillNow_29 (fun H locs hw => ?_)
  have hw : zHw x A s.heap (zTW x t (zU (zU S 0 2 ((S 0 2) - (zPs S h how))) 0 6 (if 9999999 < ((zU S 0 2 ((S 0 2) - (zPs S h how))) 0 6) + (zPs S h how) then 9999999 else ((zU S 0 2 ((S 0 2) - (zPs S h how))) 0 6) + (zPs S h how))) lk) H locs := hw
  refine lv_aload_n hx hb dX3_fillNow_32 rfl (lv_at hl 1 rfl) ?_
  refine gfX3_52 hx hb hown hts hK hw 0 rfl rfl dX3_fillNow_33 ?_
  refine lv_iload_n hx hb dX3_fillNow_36 rfl (lv_at hl 2 rfl) ?_
  refine lv_iload_n hx hb dX3_fillNow_37 rfl (lv_at hl 3 rfl) ?_
  refine lv_if_ne (tgt := 45) hx hb dX3_fillNow_38 (by decide) (fun c38 => ?_) (fun c38 => ?_)
  · refine lv_iconst (v := 2) hx hb dX3_fillNow_45 (by decide) ?_
    refine zias hx hb hK hw 6 0 h rfl rfl rfl (by omega) (by decide) dX3_fillNow_46 (fun H locs hw => ?_)
    have hw : zHw x A s.heap (zTW x t (zU (zU (zU S 0 2 ((S 0 2) - (zPs S h how))) 0 6 (if 9999999 < ((zU S 0 2 ((S 0 2) - (zPs S h how))) 0 6) + (zPs S h how) then 9999999 else ((zU S 0 2 ((S 0 2) - (zPs S h how))) 0 6) + (zPs S h how))) 6 h 2) lk) H locs := hw
    refine lv_aload_n hx hb dX3_fillNow_47 rfl (lv_at hl 1 rfl) ?_
    refine gfX3_55 hx hb hown hts hK hw 0 rfl rfl dX3_fillNow_48 ?_
    refine lv_iload_n hx hb dX3_fillNow_51 rfl (lv_at hl 2 rfl) ?_
    refine lv_iconst (v := 0) hx hb dX3_fillNow_52 (by decide) ?_
    refine zias hx hb hK hw 7 0 h rfl rfl rfl (by omega) (by decide) dX3_fillNow_53 (fun H locs hw => ?_)
    have hw : zHw x A s.heap (zTW x t (zU (zU (zU (zU S 0 2 ((S 0 2) - (zPs S h how))) 0 6 (if 9999999 < ((zU S 0 2 ((S 0 2) - (zPs S h how))) 0 6) + (zPs S h how) then 9999999 else ((zU S 0 2 ((S 0 2) - (zPs S h how))) 0 6) + (zPs S h how))) 6 h 2) 7 h 0) lk) H locs := hw
    refine lv_aload_n hx hb dX3_fillNow_54 rfl (lv_at hl 1 rfl) ?_
    refine gfX3_58 hx hb hown hts hK hw 0 rfl rfl dX3_fillNow_55 ?_
    refine lv_iload_n hx hb dX3_fillNow_58 rfl (lv_at hl 2 rfl) ?_
    refine lv_iconst (v := 0) hx hb dX3_fillNow_59 (by decide) ?_
    refine zias hx hb hK hw 8 0 h rfl rfl rfl (by omega) (by decide) dX3_fillNow_60 (fun H locs hw => ?_)
    have hw : zHw x A s.heap (zTW x t (zU (zU (zU (zU (zU S 0 2 ((S 0 2) - (zPs S h how))) 0 6 (if 9999999 < ((zU S 0 2 ((S 0 2) - (zPs S h how))) 0 6) + (zPs S h how) then 9999999 else ((zU S 0 2 ((S 0 2) - (zPs S h how))) 0 6) + (zPs S h how))) 6 h 2) 7 h 0) 8 h 0) lk) H locs := hw
    exact zFG.vret hx hb hr hlocks hQ hw rfl dX3_fillNow_61 ⟨rfl, congrArg (fun z => zTW x t z lk) (by unfold zFi zHt; rw [if_neg c38]; rfl)⟩
  · refine lv_iconst (v := 1) hx hb dX3_fillNow_41 (by decide) ?_
    refine lv_goto (tgt := 46) hx hb dX3_fillNow_42 (by decide) ?_
    refine zias hx hb hK hw 6 0 h rfl rfl rfl (by omega) (by decide) dX3_fillNow_46 (fun H locs hw => ?_)
    have hw : zHw x A s.heap (zTW x t (zU (zU (zU S 0 2 ((S 0 2) - (zPs S h how))) 0 6 (if 9999999 < ((zU S 0 2 ((S 0 2) - (zPs S h how))) 0 6) + (zPs S h how) then 9999999 else ((zU S 0 2 ((S 0 2) - (zPs S h how))) 0 6) + (zPs S h how))) 6 h 1) lk) H locs := hw
    refine lv_aload_n hx hb dX3_fillNow_47 rfl (lv_at hl 1 rfl) ?_
    refine gfX3_55 hx hb hown hts hK hw 0 rfl rfl dX3_fillNow_48 ?_
    refine lv_iload_n hx hb dX3_fillNow_51 rfl (lv_at hl 2 rfl) ?_
    refine lv_iconst (v := 0) hx hb dX3_fillNow_52 (by decide) ?_
    refine zias hx hb hK hw 7 0 h rfl rfl rfl (by omega) (by decide) dX3_fillNow_53 (fun H locs hw => ?_)
    have hw : zHw x A s.heap (zTW x t (zU (zU (zU (zU S 0 2 ((S 0 2) - (zPs S h how))) 0 6 (if 9999999 < ((zU S 0 2 ((S 0 2) - (zPs S h how))) 0 6) + (zPs S h how) then 9999999 else ((zU S 0 2 ((S 0 2) - (zPs S h how))) 0 6) + (zPs S h how))) 6 h 1) 7 h 0) lk) H locs := hw
    refine lv_aload_n hx hb dX3_fillNow_54 rfl (lv_at hl 1 rfl) ?_
    refine gfX3_58 hx hb hown hts hK hw 0 rfl rfl dX3_fillNow_55 ?_
    refine lv_iload_n hx hb dX3_fillNow_58 rfl (lv_at hl 2 rfl) ?_
    refine lv_iconst (v := 0) hx hb dX3_fillNow_59 (by decide) ?_
    refine zias hx hb hK hw 8 0 h rfl rfl rfl (by omega) (by decide) dX3_fillNow_60 (fun H locs hw => ?_)
    have hw : zHw x A s.heap (zTW x t (zU (zU (zU (zU (zU S 0 2 ((S 0 2) - (zPs S h how))) 0 6 (if 9999999 < ((zU S 0 2 ((S 0 2) - (zPs S h how))) 0 6) + (zPs S h how) then 9999999 else ((zU S 0 2 ((S 0 2) - (zPs S h how))) 0 6) + (zPs S h how))) 6 h 1) 7 h 0) 8 h 0) lk) H locs := hw
    exact zFG.vret hx hb hr hlocks hQ hw rfl dX3_fillNow_61 ⟨rfl, congrArg (fun z => zTW x t z lk) (by unfold zFi zHt; rw [if_pos c38]; rfl)⟩

set_option maxHeartbeats 4000000 in
set_option maxRecDepth 100000 in
theorem c_X3_sendMen (x : zX) (t : Nat → Nat) (S : zT) (lk : Int32) (hI : zInv S) : zFF x mX3_sendMen 3 [.ref (t 0)] (zTW x t S lk) none (zTW x t (zMs (zMn S) S) (zMl (zMn S) S lk)) := by
  obtain ⟨mn, hm6, hm⟩ := hI 0 4 (by decide) (by decide) (by decide)
  have hm6 : mn ≤ 6 := hm6
  have hM : zMn S = mn := by unfold zMn; rw [hm]; exact nI_clamp (by omega)
  refine zFG.start RX3 cX3_sendMen 3 none rfl rfl (by decide +kernel) (Nat.le_of_ble_eq_true rfl) ?_
  intro p e s m ar below meth c ls A Q hx hb hr hml hown hts hlocks hK hE hA hQ hl hw
  have hl : lv_has ls 3 [(0, .ref (t 0))] := hl
  have hw : zHw x A s.heap (zTW x t S lk) s.heap [] := hw
  refine lv_iconst (v := 0) hx hb dX3_sendMen_0 (by decide) ?_
  refine lv_istore_n (lv' := [(1, .int 0), (0, .ref (t 0))]) hx hb dX3_sendMen_1 rfl hl (by decide) rfl (fun ls hl => ?_)
  have loop2 : ∀ (dd : Nat) (i : Nat) (T : zT) (lj : Int32), mn - i < dd → (hi : i ≤ mn) → (hJ : zInv T) → (h4 : T 0 4 = nI mn) → (e1 : zMs (mn - i) T = zMs mn S) → (e2 : zMl (mn - i) T lj = zMl mn S lk) → ∀ (H : Heap) (locs : List Loc) (ls : Array Slot), zHw x A s.heap (zTW x t T lj) H locs → lv_has ls 3 [(0, .ref (t 0)), (1, .int (nI i))] → W p x.1 e (zRM 3) s m ar below meth c H locs 0 0 Q (F0 m 2 ls []) := by
    intro dd
    induction dd with
    | zero => intro i T lj hm; exact absurd hm (Nat.not_lt_zero _)
    | succ dd ih2 =>
      intro i T lj hm hi hJ h4 e1 e2 H locs ls hw hl
      refine lv_iload_n hx hb dX3_sendMen_2 rfl (lv_at hl 1 rfl) ?_
      refine lv_aload_n hx hb dX3_sendMen_3 rfl (lv_at hl 0 rfl) ?_
      refine gfX3_21 hx hb hown hts hK hw 0 rfl rfl dX3_sendMen_4 ?_
      refine lv_icmp_ge (tgt := 37) hx hb dX3_sendMen_7 (by decide) (fun c7 => ?_) (fun c7 => ?_)
      · exact zFG.vret hx hb hr hlocks hQ hw rfl dX3_sendMen_37 ⟨rfl, by rw [hM, ← e1, ← e2, show mn - i = 0 from by have := zke h4 (by omega) hi c7; omega]; rfl⟩
      · have him : i < mn := zkn h4 (by omega) hi c7
        have hj : mn - i = (mn - (i + 1)) + 1 := by omega
        refine lv_aload_n hx hb dX3_sendMen_10 rfl (lv_at hl 0 rfl) ?_
        refine zcVwi (r := zo (zNb T (zN T))) hx hb hml hown hts hl.1 hK hE hA lkX3_101 (c_X3_firstToFill x t T lj hJ) ⟨Nat.le_of_ble_eq_true rfl, Nat.le_of_ble_eq_true rfl⟩ ⟨Nat.zero_le _, Nat.zero_le _⟩ hw 0 2 rfl rfl rfl rfl (Nat.le_of_ble_eq_true rfl) dX3_sendMen_11 (fun H locs hw => ?_)
        have hw : zHw x A s.heap (zTW x t T (zLk T lj (zN T))) H locs := hw
        refine lv_istore_n (lv' := [(2, .int (zo (zNb T (zN T)))), (0, .ref (t 0)), (1, .int (nI i))]) hx hb dX3_sendMen_14 rfl hl (by decide) rfl (fun ls hl => ?_)
        rcases hbb : zNb T (zN T) with _ | b
        · have hl : lv_has ls 3 [(2, .int (-1)), (0, .ref (t 0)), (1, .int (nI i))] := by
            rw [show (-1) = zo (zNb T (zN T)) from (by rw [hbb]; rfl)]; exact hl
          refine lv_iload_n hx hb dX3_sendMen_15 rfl (lv_at hl 0 rfl) ?_
          refine lv_if_ge (tgt := 22) hx hb dX3_sendMen_16 (by decide) (fun c16 => absurd c16 (by decide)) (fun c16 => ?_)
          refine lv_goto (tgt := 37) hx hb dX3_sendMen_19 (by decide) ?_
          exact zFG.vret hx hb hr hlocks hQ hw rfl dX3_sendMen_37 ⟨rfl, by rw [hM, ← e1, ← e2, hj]; simp only [zMs, zMl, hbb]⟩
        · have hbm := zNb_lt T _ b hbb
          have hb8 := zN_le hJ
          have hl : lv_has ls 3 [(2, .int (nI b)), (0, .ref (t 0)), (1, .int (nI i))] := by
            rw [show nI b = zo (zNb T (zN T)) from (by rw [hbb]; rfl)]; exact hl
          refine lv_iload_n hx hb dX3_sendMen_15 rfl (lv_at hl 0 rfl) ?_
          refine lv_if_ge (tgt := 22) hx hb dX3_sendMen_16 (by decide) (fun c16 => ?_) (fun c16 => absurd (nI_pos' (by omega)) c16)
          refine lv_aload_n hx hb dX3_sendMen_22 rfl (lv_at hl 1 rfl) ?_
          refine lv_iload_n hx hb dX3_sendMen_23 rfl (lv_at hl 0 rfl) ?_
          refine lv_aload_n hx hb dX3_sendMen_24 rfl (lv_at hl 1 rfl) ?_
          refine gfX3_24 hx hb hown hts hK hw 0 rfl rfl dX3_sendMen_25 ?_
          refine zcVwv hx hb hml hown hts hl.1 hK hE hA lkX3_104 (c_X3_fillNow x t T (zLk T lj (zN T)) b (T 0 5) (by omega)) ⟨Nat.le_of_ble_eq_true rfl, Nat.le_of_ble_eq_true rfl⟩ ⟨Nat.zero_le _, Nat.zero_le _⟩ hw 0 2 rfl rfl rfl rfl (Nat.le_of_ble_eq_true rfl) dX3_sendMen_28 (fun H locs hw => ?_)
          have hw : zHw x A s.heap (zTW x t (zFi T b (T 0 5)) (zLk T lj (zN T))) H locs := hw
          refine lv_iinc (v := nI (i + 1)) (lv' := [(1, .int (nI (i + 1))), (2, .int (nI b)), (0, .ref (t 0))]) hx hb dX3_sendMen_31 hl (k := 2) rfl (nI_1 i) (by decide) rfl (fun ls hl => ?_)
          refine lv_goto (tgt := 2) hx hb dX3_sendMen_34 (by decide) ?_
          exact ih2 (i + 1) (zFi T b (T 0 5)) (zLk T lj (zN T)) (by omega) him (zFi_inv hJ (by omega) hbm.2.2) h4 (by rw [← e1, hj]; exact (by simp only [zMs, hbb])) (by rw [← e2, hj]; exact (by simp only [zMl, hbb])) _ _ _ hw (lv_sub hl [2, 0] rfl)
  exact loop2 (_ + 1) 0 S lk (Nat.lt_succ_self _) (Nat.zero_le _) hI hm rfl rfl _ _ _ hw (lv_sub hl [1, 0] rfl)

set_option maxHeartbeats 4000000 in
set_option maxRecDepth 100000 in
theorem c_X3_wear (x : zX) (t : Nat → Nat) (S : zT) (lk : Int32) (h : Nat) (hI : zInv S) (hh : h < 8) : zFF x mX3_wear 3 [.ref (t 0), .int (nI h)] (zTW x t S lk) none (zTW x t (zWe S h) lk) := by
  refine zFG.start RX3 cX3_wear 2 none rfl rfl (by decide +kernel) (Nat.le_of_ble_eq_true rfl) ?_
  intro p e s m ar below meth c ls A Q hx hb hr hml hown hts hlocks hK hE hA hQ hl hw
  have hl : lv_has ls 2 [(0, .ref (t 0)), (1, .int (nI h))] := hl
  have hw : zHw x A s.heap (zTW x t S lk) s.heap [] := hw
  refine lv_aload_n hx hb dX3_wear_0 rfl (lv_at hl 0 rfl) ?_
  refine gfX3_52 hx hb hown hts hK hw 0 rfl rfl dX3_wear_1 ?_
  refine lv_iload_n hx hb dX3_wear_4 rfl (lv_at hl 1 rfl) ?_
  refine zial hx hb hK hw 6 0 h rfl rfl rfl (by omega) (by decide) dX3_wear_5 ?_
  refine lv_if_ne (tgt := 33) hx hb dX3_wear_6 (by decide) (fun c6 => ?_) (fun c6 => ?_)
  · refine lv_aload_n hx hb dX3_wear_33 rfl (lv_at hl 0 rfl) ?_
    refine gfX3_55 hx hb hown hts hK hw 0 rfl rfl dX3_wear_34 ?_
    refine lv_iload_n hx hb dX3_wear_37 rfl (lv_at hl 1 rfl) ?_
    refine lv_aload_n hx hb dX3_wear_38 rfl (lv_at hl 0 rfl) ?_
    refine gfX3_55 hx hb hown hts hK hw 0 rfl rfl dX3_wear_39 ?_
    refine lv_iload_n hx hb dX3_wear_42 rfl (lv_at hl 1 rfl) ?_
    refine zial hx hb hK hw 7 0 h rfl rfl rfl (by omega) (by decide) dX3_wear_43 ?_
    refine lv_iconst (v := 1) hx hb dX3_wear_44 (by decide) ?_
    refine lv_iadd hx hb dX3_wear_45 ?_
    refine lv_sipush (v := 999) hx hb dX3_wear_46 (by decide) ?_
    refine zmin hx hb (hml.trans hl.1.symm) hown hts lkX3_91 zmath ⟨Nat.le_of_ble_eq_true rfl, Nat.le_of_ble_eq_true rfl, Nat.zero_le _, Nat.zero_le _⟩ dX3_wear_49 ?_
    refine zias hx hb hK hw 7 0 h rfl rfl rfl (by omega) (by decide) dX3_wear_52 (fun H locs hw => ?_)
    have hw : zHw x A s.heap (zTW x t (zU S 7 h (if 999 < ((S 7) h) + 1 then 999 else ((S 7) h) + 1)) lk) H locs := hw
    refine lv_aload_n hx hb dX3_wear_53 rfl (lv_at hl 0 rfl) ?_
    refine gfX3_55 hx hb hown hts hK hw 0 rfl rfl dX3_wear_54 ?_
    refine lv_iload_n hx hb dX3_wear_57 rfl (lv_at hl 1 rfl) ?_
    refine zial hx hb hK hw 7 0 h rfl rfl rfl (by omega) (by decide) dX3_wear_58 ?_
    refine lv_aload_n hx hb dX3_wear_59 rfl (lv_at hl 0 rfl) ?_
    refine gfX3_43 hx hb hown hts hK hw 0 rfl rfl dX3_wear_60 ?_
    refine lv_iload_n hx hb dX3_wear_63 rfl (lv_at hl 1 rfl) ?_
    refine zial hx hb hK hw 3 0 h rfl rfl rfl (by omega) (by decide) dX3_wear_64 ?_
    refine lv_aload_n hx hb dX3_wear_65 rfl (lv_at hl 0 rfl) ?_
    refine gfX3_52 hx hb hown hts hK hw 0 rfl rfl dX3_wear_66 ?_
    refine lv_iload_n hx hb dX3_wear_69 rfl (lv_at hl 1 rfl) ?_
    refine zial hx hb hK hw 6 0 h rfl rfl rfl (by omega) (by decide) dX3_wear_70 ?_
    refine zcSwi (r := zHd (((zU S 7 h (if 999 < ((S 7) h) + 1 then 999 else ((S 7) h) + 1)) 3) h) (((zU S 7 h (if 999 < ((S 7) h) + 1 then 999 else ((S 7) h) + 1)) 6) h)) hx hb hml hown hts hl.1 hK hE hA lkX3_111 (c_X0_holds x (zTW x t (zU S 7 h (if 999 < ((S 7) h) + 1 then 999 else ((S 7) h) + 1)) lk) (((zU S 7 h (if 999 < ((S 7) h) + 1 then 999 else ((S 7) h) + 1)) 3) h) (((zU S 7 h (if 999 < ((S 7) h) + 1 then 999 else ((S 7) h) + 1)) 6) h)) ⟨Nat.le_of_ble_eq_true rfl, Nat.le_of_ble_eq_true rfl⟩ ⟨Nat.zero_le _, Nat.zero_le _⟩ hw rfl rfl (Nat.le_of_ble_eq_true rfl) dX3_wear_71 (fun H locs hw => ?_)
    have hw : zHw x A s.heap (zTW x t (zU S 7 h (if 999 < ((S 7) h) + 1 then 999 else ((S 7) h) + 1)) lk) H locs := hw
    refine lv_icmp_le (tgt := 84) hx hb dX3_wear_74 (by decide) (fun c74 => ?_) (fun c74 => ?_)
    · have c74 : zHt (S 7 h + 1) 999 ≤ zHd (S 3 h) (S 6 h) := by rw [zU_at] at c74; exact c74
      exact zFG.vret hx hb hr hlocks hQ hw rfl dX3_wear_84 ⟨rfl, congrArg (fun z => zTW x t z lk) (by unfold zWe; rw [if_neg c6, if_neg (Int32.not_lt.mpr c74)]; rfl)⟩
    · have c74 : ¬ (zHt (S 7 h + 1) 999 ≤ zHd (S 3 h) (S 6 h)) := by rw [zU_at] at c74; exact c74
      refine lv_aload_n hx hb dX3_wear_77 rfl (lv_at hl 0 rfl) ?_
      refine gfX3_52 hx hb hown hts hK hw 0 rfl rfl dX3_wear_78 ?_
      refine lv_iload_n hx hb dX3_wear_81 rfl (lv_at hl 1 rfl) ?_
      refine lv_iconst (v := 0) hx hb dX3_wear_82 (by decide) ?_
      refine zias hx hb hK hw 6 0 h rfl rfl rfl (by omega) (by decide) dX3_wear_83 (fun H locs hw => ?_)
      have hw : zHw x A s.heap (zTW x t (zU (zU S 7 h (if 999 < ((S 7) h) + 1 then 999 else ((S 7) h) + 1)) 6 h 0) lk) H locs := hw
      exact zFG.vret hx hb hr hlocks hQ hw rfl dX3_wear_84 ⟨rfl, congrArg (fun z => zTW x t z lk) (by unfold zWe; rw [if_neg c6, if_pos (Int32.not_le.mp c74)]; rfl)⟩
  · refine lv_aload_n hx hb dX3_wear_9 rfl (lv_at hl 0 rfl) ?_
    refine gfX3_49 hx hb hown hts hK hw 0 rfl rfl dX3_wear_10 ?_
    refine lv_iload_n hx hb dX3_wear_13 rfl (lv_at hl 1 rfl) ?_
    refine lv_aload_n hx hb dX3_wear_14 rfl (lv_at hl 0 rfl) ?_
    refine gfX3_49 hx hb hown hts hK hw 0 rfl rfl dX3_wear_15 ?_
    refine lv_iload_n hx hb dX3_wear_18 rfl (lv_at hl 1 rfl) ?_
    refine zial hx hb hK hw 5 0 h rfl rfl rfl (by omega) (by decide) dX3_wear_19 ?_
    refine lv_aload_n hx hb dX3_wear_20 rfl (lv_at hl 0 rfl) ?_
    refine lv_iload_n hx hb dX3_wear_21 rfl (lv_at hl 1 rfl) ?_
    refine zcVwi (r := zGs S h) hx hb hml hown hts hl.1 hK hE hA lkX3_108 (c_X3_growth x t S lk h hI (by omega)) ⟨Nat.le_of_ble_eq_true rfl, Nat.le_of_ble_eq_true rfl⟩ ⟨Nat.zero_le _, Nat.zero_le _⟩ hw 0 2 rfl rfl rfl rfl (Nat.le_of_ble_eq_true rfl) dX3_wear_22 (fun H locs hw => ?_)
    have hw : zHw x A s.heap (zTW x t S lk) H locs := hw
    refine lv_iadd hx hb dX3_wear_25 ?_
    refine lv_bipush (v := 99) hx hb dX3_wear_26 (by decide) ?_
    refine zmin hx hb (hml.trans hl.1.symm) hown hts lkX3_91 zmath ⟨Nat.le_of_ble_eq_true rfl, Nat.le_of_ble_eq_true rfl, Nat.zero_le _, Nat.zero_le _⟩ dX3_wear_28 ?_
    refine zias hx hb hK hw 5 0 h rfl rfl rfl (by omega) (by decide) dX3_wear_31 (fun H locs hw => ?_)
    have hw : zHw x A s.heap (zTW x t (zU S 5 h (if 99 < ((S 5) h) + (zGs S h) then 99 else ((S 5) h) + (zGs S h))) lk) H locs := hw
    exact zFG.vret hx hb hr hlocks hQ hw rfl dX3_wear_32 ⟨rfl, congrArg (fun z => zTW x t z lk) (by unfold zWe zHt; rw [if_pos c6])⟩

set_option maxHeartbeats 4000000 in
set_option maxRecDepth 100000 in
theorem c_X3_goWeek (x : zX) (t : Nat → Nat) (S : zT) (lk : Int32) (hI : zInv S) : zFF x mX3_goWeek 4 [.ref (t 0)] (zTW x t S lk) none (zTW x t (zWk S) (zMl (zMn S) S lk)) := by
  obtain ⟨n, hn, h0⟩ := hI.holes
  have hN : zN S = n := zN_of hn h0
  obtain ⟨hI1, h1, -⟩ := zMs_ok (zMn S) hI
  have hO := zWs_ok hI1
  refine zFG.start RX3 cX3_goWeek 2 none rfl rfl (by decide +kernel) (Nat.le_of_ble_eq_true rfl) ?_
  intro p e s m ar below meth c ls A Q hx hb hr hml hown hts hlocks hK hE hA hQ hl hw
  have hl : lv_has ls 2 [(0, .ref (t 0))] := hl
  have hw : zHw x A s.heap (zTW x t S lk) s.heap [] := hw
  refine lv_aload_n hx hb dX3_goWeek_0 rfl (lv_at hl 0 rfl) ?_
  refine zcVwv hx hb hml hown hts hl.1 hK hE hA lkX3_114 (c_X3_sendMen x t S lk hI) ⟨Nat.le_of_ble_eq_true rfl, Nat.le_of_ble_eq_true rfl⟩ ⟨Nat.zero_le _, Nat.zero_le _⟩ hw 0 2 rfl rfl rfl rfl (Nat.le_of_ble_eq_true rfl) dX3_goWeek_1 (fun H locs hw => ?_)
  have hw : zHw x A s.heap (zTW x t (zMs (zMn S) S) (zMl (zMn S) S lk)) H locs := hw
  refine lv_iconst (v := 0) hx hb dX3_goWeek_4 (by decide) ?_
  refine lv_istore_n (lv' := [(1, .int 0), (0, .ref (t 0))]) hx hb dX3_goWeek_5 rfl hl (by decide) rfl (fun ls hl => ?_)
  have loop6 : ∀ (dd : Nat) (k : Nat), n - k < dd → (hk : k ≤ n) → ∀ (H : Heap) (locs : List Loc) (ls : Array Slot), zHw x A s.heap (zTW x t (zWs (zMs (zMn S) S) k) (zMl (zMn S) S lk)) H locs → lv_has ls 2 [(0, .ref (t 0)), (1, .int (nI k))] → W p x.1 e (zRM 4) s m ar below meth c H locs 0 0 Q (F0 m 6 ls []) := by
    intro dd
    induction dd with
    | zero => intro k hm; exact absurd hm (Nat.not_lt_zero _)
    | succ dd ih6 =>
      intro k hm hk H locs ls hw hl
      refine lv_iload_n hx hb dX3_goWeek_6 rfl (lv_at hl 1 rfl) ?_
      refine lv_aload_n hx hb dX3_goWeek_7 rfl (lv_at hl 0 rfl) ?_
      refine gfX3_40 hx hb hown hts hK hw 0 rfl rfl dX3_goWeek_8 ?_
      refine lv_icmp_ge (tgt := 25) hx hb dX3_goWeek_11 (by decide) (fun c11 => ?_) (fun c11 => ?_)
      · have hke : k = n := zke (((hO k (by omega)).2 0).trans (h1.trans h0)) (by omega) hk c11
        have hw : zHw x A s.heap (zTW x t (zWa S) (zMl (zMn S) S lk)) H locs := by
          rw [show zWa S = zWs (zMs (zMn S) S) k from (by unfold zWa; rw [hN, hke])]; exact hw
        refine lv_aload_n hx hb dX3_goWeek_25 rfl (lv_at hl 0 rfl) ?_
        refine lv_dup hx hb dX3_goWeek_26 rfl ?_
        refine gfX3_9 hx hb hown hts hK hw 0 rfl rfl dX3_goWeek_27 ?_
        refine lv_iconst (v := 1) hx hb dX3_goWeek_30 (by decide) ?_
        refine lv_iadd hx hb dX3_goWeek_31 ?_
        refine pfX3_9 hx hb hown hts hK hw 0 rfl (Nat.le_of_ble_eq_true rfl) dX3_goWeek_32 (fun H locs hw => ?_)
        have hw : zHw x A s.heap (zTW x t (zU (zWa S) 0 1 (((zWa S) 0 1) + 1)) (zMl (zMn S) S lk)) H locs := hw
        have hw : zHw x A s.heap (zTW x t (zWn (zWa S)) (zMl (zMn S) S lk)) H locs := by
          rw [show zWn (zWa S) = zU (zWa S) 0 1 (((zWa S) 0 1) + 1) from rfl]; exact hw
        refine lv_aload_n hx hb dX3_goWeek_35 rfl (lv_at hl 0 rfl) ?_
        refine zcVwi (r := zWo (zWn (zWa S))) hx hb hml hown hts hl.1 hK hE hA lkX3_71 (c_X3_weekOfYear x t (zWn (zWa S)) (zMl (zMn S) S lk) ) ⟨Nat.le_of_ble_eq_true rfl, Nat.le_of_ble_eq_true rfl⟩ ⟨Nat.zero_le _, Nat.zero_le _⟩ hw 0 2 rfl rfl rfl rfl (Nat.le_of_ble_eq_true rfl) dX3_goWeek_36 (fun H locs hw => ?_)
        have hw : zHw x A s.heap (zTW x t (zWn (zWa S)) (zMl (zMn S) S lk)) H locs := hw
        refine lv_bipush (v := 12) hx hb dX3_goWeek_39 (by decide) ?_
        refine lv_icmp_ne (tgt := 52) hx hb dX3_goWeek_41 (by decide) (fun c41 => ?_) (fun c41 => ?_)
        · exact zFG.vret hx hb hr hlocks hQ hw rfl dX3_goWeek_52 ⟨rfl, congrArg (fun z => zTW x t z (zMl (zMn S) S lk)) (by unfold zWk; rw [if_neg c41])⟩
        · refine lv_aload_n hx hb dX3_goWeek_44 rfl (lv_at hl 0 rfl) ?_
          refine lv_aload_n hx hb dX3_goWeek_45 rfl (lv_at hl 0 rfl) ?_
          refine gfX3_18 hx hb hown hts hK hw 0 rfl rfl dX3_goWeek_46 ?_
          refine pfX3_15 hx hb hown hts hK hw 0 rfl (Nat.le_of_ble_eq_true rfl) dX3_goWeek_49 (fun H locs hw => ?_)
          have hw : zHw x A s.heap (zTW x t (zU (zWn (zWa S)) 0 2 ((zWn (zWa S)) 0 3)) (zMl (zMn S) S lk)) H locs := hw
          exact zFG.vret hx hb hr hlocks hQ hw rfl dX3_goWeek_52 ⟨rfl, congrArg (fun z => zTW x t z (zMl (zMn S) S lk)) (by unfold zWk; rw [if_pos c41])⟩
      · have hkn : k < n := zkn (((hO k (by omega)).2 0).trans (h1.trans h0)) (by omega) hk c11
        refine lv_aload_n hx hb dX3_goWeek_14 rfl (lv_at hl 0 rfl) ?_
        refine lv_iload_n hx hb dX3_goWeek_15 rfl (lv_at hl 1 rfl) ?_
        refine zcVwv hx hb hml hown hts hl.1 hK hE hA lkX3_117 (c_X3_wear x t (zWs (zMs (zMn S) S) k) (zMl (zMn S) S lk) k (hO k (by omega)).1 (by omega)) ⟨Nat.le_of_ble_eq_true rfl, Nat.le_of_ble_eq_true rfl⟩ ⟨Nat.zero_le _, Nat.zero_le _⟩ hw 0 2 rfl rfl rfl rfl (Nat.le_of_ble_eq_true rfl) dX3_goWeek_16 (fun H locs hw => ?_)
        have hw : zHw x A s.heap (zTW x t (zWs (zMs (zMn S) S) (k + 1)) (zMl (zMn S) S lk)) H locs := hw
        refine lv_iinc (v := nI (k + 1)) (lv' := [(1, .int (nI (k + 1))), (0, .ref (t 0))]) hx hb dX3_goWeek_19 hl (k := 1) rfl (nI_1 k) (by decide) rfl (fun ls hl => ?_)
        refine lv_goto (tgt := 6) hx hb dX3_goWeek_22 (by decide) ?_
        exact ih6 (k + 1) (by omega) (by omega) _ _ _ hw (lv_sub hl [1, 0] rfl)
  exact loop6 (_ + 1) 0 (Nat.lt_succ_self _) (Nat.zero_le _) _ _ _ hw (lv_sub hl [1, 0] rfl)

set_option maxHeartbeats 4000000 in
set_option maxRecDepth 100000 in
theorem c_X3_goWeeks (x : zX) (t : Nat → Nat) (S : zT) (lk : Int32) (n : Nat) (hI : zInv S) (hn : n < 2147483648) : zFF x mX3_goWeeks 5 [.ref (t 0), .int (nI n)] (zTW x t S lk) (some (.ref (t 0))) (zTW x t (zGo n S) (zGl n S lk)) := by
  refine zFG.start RX3 cX3_goWeeks 3 (some (.object "HoleFills$Town")) rfl rfl (by decide +kernel) (Nat.le_of_ble_eq_true rfl) ?_
  intro p e s m ar below meth c ls A Q hx hb hr hml hown hts hlocks hK hE hA hQ hl hw
  have hl : lv_has ls 3 [(0, .ref (t 0)), (1, .int (nI n))] := hl
  have hw : zHw x A s.heap (zTW x t S lk) s.heap [] := hw
  refine lv_iconst (v := 0) hx hb dX3_goWeeks_0 (by decide) ?_
  refine lv_istore_n (lv' := [(2, .int 0), (0, .ref (t 0)), (1, .int (nI n))]) hx hb dX3_goWeeks_1 rfl hl (by decide) rfl (fun ls hl => ?_)
  have loop2 : ∀ (dd : Nat) (i : Nat) (T : zT) (lj : Int32), n - i < dd → (hi : i ≤ n) → (hJ : zInv T) → (e1 : zGo (n - i) T = zGo n S) → (e2 : zGl (n - i) T lj = zGl n S lk) → ∀ (H : Heap) (locs : List Loc) (ls : Array Slot), zHw x A s.heap (zTW x t T lj) H locs → lv_has ls 3 [(0, .ref (t 0)), (1, .int (nI n)), (2, .int (nI i))] → W p x.1 e (zRM 5) s m ar below meth c H locs 0 0 Q (F0 m 2 ls []) := by
    intro dd
    induction dd with
    | zero => intro i T lj hm; exact absurd hm (Nat.not_lt_zero _)
    | succ dd ih2 =>
      intro i T lj hm hi hJ e1 e2 H locs ls hw hl
      refine lv_iload_n hx hb dX3_goWeeks_2 rfl (lv_at hl 2 rfl) ?_
      refine lv_iload_n hx hb dX3_goWeeks_3 rfl (lv_at hl 1 rfl) ?_
      refine lv_icmp_ge (tgt := 17) hx hb dX3_goWeeks_4 (by decide) (fun c4 => ?_) (fun c4 => ?_)
      · refine lv_aload_n hx hb dX3_goWeeks_17 rfl (lv_at hl 0 rfl) ?_
        exact zFG.aret hx hb hr (by first | exact Or.inl ⟨_, rfl⟩ | exact Or.inr ⟨_, rfl⟩) (by first | exact Or.inl rfl | exact Or.inr ⟨_, rfl⟩) hlocks hQ hw rfl dX3_goWeeks_18 ⟨rfl, by rw [← e1, ← e2, show n - i = 0 from by have := zke rfl hn hi c4; omega]; rfl⟩
      · have him : i < n := zkn rfl hn hi c4
        have hj : n - i = (n - (i + 1)) + 1 := by omega
        refine lv_aload_n hx hb dX3_goWeeks_7 rfl (lv_at hl 0 rfl) ?_
        refine zcVwv hx hb hml hown hts hl.1 hK hE hA lkX3_121 (c_X3_goWeek x t T lj hJ) ⟨Nat.le_of_ble_eq_true rfl, Nat.le_of_ble_eq_true rfl⟩ ⟨Nat.zero_le _, Nat.zero_le _⟩ hw 0 2 rfl rfl rfl rfl (Nat.le_of_ble_eq_true rfl) dX3_goWeeks_8 (fun H locs hw => ?_)
        have hw : zHw x A s.heap (zTW x t (zWk T) (zMl (zMn T) T lj)) H locs := hw
        refine lv_iinc (v := nI (i + 1)) (lv' := [(2, .int (nI (i + 1))), (0, .ref (t 0)), (1, .int (nI n))]) hx hb dX3_goWeeks_11 hl (k := 2) rfl (nI_1 i) (by decide) rfl (fun ls hl => ?_)
        refine lv_goto (tgt := 2) hx hb dX3_goWeeks_14 (by decide) ?_
        exact ih2 (i + 1) (zWk T) (zMl (zMn T) T lj) (by omega) him ((zWk_ok hJ).1) (by rw [← e1, hj]; rfl) (by rw [← e2, hj]; rfl) _ _ _ hw (lv_sub hl [1, 2, 0] rfl)
  exact loop2 (_ + 1) 0 S lk (Nat.lt_succ_self _) (Nat.zero_le _) hI rfl rfl _ _ _ hw (lv_sub hl [1, 2, 0] rfl)

set_option maxHeartbeats 4000000 in
set_option maxRecDepth 100000 in
theorem c_X3_letGoAll (x : zX) (t : Nat → Nat) (S : zT) (lk : Int32) (v : Int32) : zFF x mX3_letGoAll 0 [.ref (t 0), .int v] (zTW x t S lk) none (zTW x t (zLa S v 6) lk) := by
  refine zFG.start RX3 cX3_letGoAll 3 none rfl rfl (by decide +kernel) (Nat.le_of_ble_eq_true rfl) ?_
  intro p e s m ar below meth c ls A Q hx hb hr hml hown hts hlocks hK hE hA hQ hl hw
  have hl : lv_has ls 3 [(0, .ref (t 0)), (1, .int v)] := hl
  have hw : zHw x A s.heap (zTW x t S lk) s.heap [] := hw
  refine lv_iconst (v := 0) hx hb dX3_letGoAll_0 (by decide) ?_
  refine lv_istore_n (lv' := [(2, .int 0), (0, .ref (t 0)), (1, .int v)]) hx hb dX3_letGoAll_1 rfl hl (by decide) rfl (fun ls hl => ?_)
  have loop2 : ∀ (dd : Nat) (k : Nat), 6 - k < dd → (hk : k ≤ 6) → ∀ (H : Heap) (locs : List Loc) (ls : Array Slot), zHw x A s.heap (zTW x t (zLa S v k) lk) H locs → lv_has ls 3 [(0, .ref (t 0)), (1, .int v), (2, .int (nI k))] → W p x.1 e (zRM 0) s m ar below meth c H locs 0 0 Q (F0 m 2 ls []) := by
    intro dd
    induction dd with
    | zero => intro k hm; exact absurd hm (Nat.not_lt_zero _)
    | succ dd ih2 =>
      intro k hm hk H locs ls hw hl
      refine lv_iload_n hx hb dX3_letGoAll_2 rfl (lv_at hl 2 rfl) ?_
      refine lv_bipush (v := 6) hx hb dX3_letGoAll_3 (by decide) ?_
      refine lv_icmp_ge (tgt := 25) hx hb dX3_letGoAll_5 (by decide) (fun c5 => ?_) (fun c5 => ?_)
      · have hke : k = 6 := zke (v := 6) rfl (by omega) hk c5
        subst hke
        exact zFG.vret hx hb hr hlocks hQ hw rfl dX3_letGoAll_25 ⟨rfl, rfl⟩
      · have hkn : k < 6 := zkn (v := 6) rfl (by omega) hk c5
        refine lv_aload_n hx hb dX3_letGoAll_8 rfl (lv_at hl 0 rfl) ?_
        refine gfX3_37 hx hb hown hts hK hw 0 rfl rfl dX3_letGoAll_9 ?_
        refine lv_iload_n hx hb dX3_letGoAll_12 rfl (lv_at hl 2 rfl) ?_
        refine lv_iload_n hx hb dX3_letGoAll_13 rfl (lv_at hl 1 rfl) ?_
        refine lv_iload_n hx hb dX3_letGoAll_14 rfl (lv_at hl 2 rfl) ?_
        refine lv_ishr hx hb dX3_letGoAll_15 ?_
        refine lv_iconst (v := 1) hx hb dX3_letGoAll_16 (by decide) ?_
        refine lv_iand hx hb dX3_letGoAll_17 ?_
        refine zias hx hb hK hw 2 0 k rfl rfl rfl (by omega) (by decide) dX3_letGoAll_18 (fun H locs hw => ?_)
        have hw : zHw x A s.heap (zTW x t (zU (zLa S v k) 2 k ((v >>> ((nI k) &&& 31)) &&& 1)) lk) H locs := hw
        refine lv_iinc (v := nI (k + 1)) (lv' := [(2, .int (nI (k + 1))), (0, .ref (t 0)), (1, .int v)]) hx hb dX3_letGoAll_19 hl (k := 2) rfl (nI_1 k) (by decide) rfl (fun ls hl => ?_)
        refine lv_goto (tgt := 2) hx hb dX3_letGoAll_22 (by decide) ?_
        exact ih2 (k + 1) (by omega) (by omega) _ _ _ hw (lv_sub hl [1, 2, 0] rfl)
  exact loop2 (_ + 1) 0 (Nat.lt_succ_self _) (Nat.zero_le _) _ _ _ hw (lv_sub hl [1, 2, 0] rfl)

set_option maxHeartbeats 4000000 in
set_option maxRecDepth 100000 in
theorem c_X3_addHole (x : zX) (t : Nat → Nat) (S : zT) (lk : Int32) (kd st : Int32) (hz0 : S 0 0 = nI (zN S)) (hz8 : zN S < 8) : zFF x mX3_addHole 0 [.ref (t 0), .int kd, .int st] (zTW x t S lk) (some (.int (nI (zN S)))) (zTW x t (zAd S kd st) lk) := by
  refine zFG.start RX3 cX3_addHole 4 (some .int) rfl rfl (by decide +kernel) (Nat.le_of_ble_eq_true rfl) ?_
  intro p e s m ar below meth c ls A Q hx hb hr hml hown hts hlocks hK hE hA hQ hl hw
  have hl : lv_has ls 4 [(0, .ref (t 0)), (1, .int kd), (2, .int st)] := hl
  have hw : zHw x A s.heap (zTW x t S lk) s.heap [] := hw
  refine lv_aload_n hx hb dX3_addHole_0 rfl (lv_at hl 0 rfl) ?_
  refine gfX3_40 hx hb hown hts hK hw 0 rfl rfl dX3_addHole_1 ?_
  refine lv_istore_n (lv' := [(3, .int (S 0 0)), (0, .ref (t 0)), (1, .int kd), (2, .int st)]) hx hb dX3_addHole_4 rfl hl (by decide) rfl (fun ls hl => ?_)
  have hl : lv_has ls 4 [(3, .int (nI (zN S))), (0, .ref (t 0)), (1, .int kd), (2, .int st)] := by
    rw [show nI (zN S) = S 0 0 from hz0.symm]; exact hl
  refine lv_aload_n hx hb dX3_addHole_5 rfl (lv_at hl 1 rfl) ?_
  refine gfX3_43 hx hb hown hts hK hw 0 rfl rfl dX3_addHole_6 ?_
  refine lv_iload_n hx hb dX3_addHole_9 rfl (lv_at hl 0 rfl) ?_
  refine lv_iload_n hx hb dX3_addHole_10 rfl (lv_at hl 2 rfl) ?_
  refine zias hx hb hK hw 3 0 (zN S) rfl rfl rfl (by omega) (by decide) dX3_addHole_11 (fun H locs hw => ?_)
  have hw : zHw x A s.heap (zTW x t (zU S 3 (zN S) kd) lk) H locs := hw
  refine lv_aload_n hx hb dX3_addHole_12 rfl (lv_at hl 1 rfl) ?_
  refine gfX3_46 hx hb hown hts hK hw 0 rfl rfl dX3_addHole_13 ?_
  refine lv_iload_n hx hb dX3_addHole_16 rfl (lv_at hl 0 rfl) ?_
  refine lv_iload_n hx hb dX3_addHole_17 rfl (lv_at hl 3 rfl) ?_
  refine zias hx hb hK hw 4 0 (zN S) rfl rfl rfl (by omega) (by decide) dX3_addHole_18 (fun H locs hw => ?_)
  have hw : zHw x A s.heap (zTW x t (zU (zU S 3 (zN S) kd) 4 (zN S) st) lk) H locs := hw
  refine lv_aload_n hx hb dX3_addHole_19 rfl (lv_at hl 1 rfl) ?_
  refine gfX3_49 hx hb hown hts hK hw 0 rfl rfl dX3_addHole_20 ?_
  refine lv_iload_n hx hb dX3_addHole_23 rfl (lv_at hl 0 rfl) ?_
  refine lv_iconst (v := 5) hx hb dX3_addHole_24 (by decide) ?_
  refine zias hx hb hK hw 5 0 (zN S) rfl rfl rfl (by omega) (by decide) dX3_addHole_25 (fun H locs hw => ?_)
  have hw : zHw x A s.heap (zTW x t (zU (zU (zU S 3 (zN S) kd) 4 (zN S) st) 5 (zN S) 5) lk) H locs := hw
  refine lv_aload_n hx hb dX3_addHole_26 rfl (lv_at hl 1 rfl) ?_
  refine gfX3_52 hx hb hown hts hK hw 0 rfl rfl dX3_addHole_27 ?_
  refine lv_iload_n hx hb dX3_addHole_30 rfl (lv_at hl 0 rfl) ?_
  refine lv_iconst (v := 0) hx hb dX3_addHole_31 (by decide) ?_
  refine zias hx hb hK hw 6 0 (zN S) rfl rfl rfl (by omega) (by decide) dX3_addHole_32 (fun H locs hw => ?_)
  have hw : zHw x A s.heap (zTW x t (zU (zU (zU (zU S 3 (zN S) kd) 4 (zN S) st) 5 (zN S) 5) 6 (zN S) 0) lk) H locs := hw
  refine lv_aload_n hx hb dX3_addHole_33 rfl (lv_at hl 1 rfl) ?_
  refine gfX3_55 hx hb hown hts hK hw 0 rfl rfl dX3_addHole_34 ?_
  refine lv_iload_n hx hb dX3_addHole_37 rfl (lv_at hl 0 rfl) ?_
  refine lv_iconst (v := 0) hx hb dX3_addHole_38 (by decide) ?_
  refine zias hx hb hK hw 7 0 (zN S) rfl rfl rfl (by omega) (by decide) dX3_addHole_39 (fun H locs hw => ?_)
  have hw : zHw x A s.heap (zTW x t (zU (zU (zU (zU (zU S 3 (zN S) kd) 4 (zN S) st) 5 (zN S) 5) 6 (zN S) 0) 7 (zN S) 0) lk) H locs := hw
  refine lv_aload_n hx hb dX3_addHole_40 rfl (lv_at hl 1 rfl) ?_
  refine gfX3_58 hx hb hown hts hK hw 0 rfl rfl dX3_addHole_41 ?_
  refine lv_iload_n hx hb dX3_addHole_44 rfl (lv_at hl 0 rfl) ?_
  refine lv_iconst (v := 0) hx hb dX3_addHole_45 (by decide) ?_
  refine zias hx hb hK hw 8 0 (zN S) rfl rfl rfl (by omega) (by decide) dX3_addHole_46 (fun H locs hw => ?_)
  have hw : zHw x A s.heap (zTW x t (zU (zU (zU (zU (zU (zU S 3 (zN S) kd) 4 (zN S) st) 5 (zN S) 5) 6 (zN S) 0) 7 (zN S) 0) 8 (zN S) 0) lk) H locs := hw
  refine lv_aload_n hx hb dX3_addHole_47 rfl (lv_at hl 1 rfl) ?_
  refine lv_dup hx hb dX3_addHole_48 rfl ?_
  refine gfX3_40 hx hb hown hts hK hw 0 rfl rfl dX3_addHole_49 ?_
  refine lv_iconst (v := 1) hx hb dX3_addHole_52 (by decide) ?_
  refine lv_iadd hx hb dX3_addHole_53 ?_
  refine pfX3_40 hx hb hown hts hK hw 0 rfl (Nat.le_of_ble_eq_true rfl) dX3_addHole_54 (fun H locs hw => ?_)
  have hw : zHw x A s.heap (zTW x t (zU (zU (zU (zU (zU (zU (zU S 3 (zN S) kd) 4 (zN S) st) 5 (zN S) 5) 6 (zN S) 0) 7 (zN S) 0) 8 (zN S) 0) 0 0 (((zU (zU (zU (zU (zU (zU S 3 (zN S) kd) 4 (zN S) st) 5 (zN S) 5) 6 (zN S) 0) 7 (zN S) 0) 8 (zN S) 0) 0 0) + 1)) lk) H locs := hw
  refine lv_iload_n hx hb dX3_addHole_57 rfl (lv_at hl 0 rfl) ?_
  exact zFG.iret hx hb hr hlocks hQ hw rfl dX3_addHole_58 ⟨rfl, rfl⟩

set_option maxHeartbeats 4000000 in
set_option maxRecDepth 100000 in
theorem c_X3_rowOfHoles_0 (x : zX) (t : Nat → Nat) (S : zT) (lk : Int32) : zFF x mX3_rowOfHoles 0 [.ref (t 0), .int 0] (zTW x t S lk) (some (.ref (t 3))) (zTW x t S lk) := by
  refine zFG.start RX3 cX3_rowOfHoles 2 (some (.array .int)) rfl rfl (by decide +kernel) (Nat.le_of_ble_eq_true rfl) ?_
  intro p e s m ar below meth c ls A Q hx hb hr hml hown hts hlocks hK hE hA hQ hl hw
  have hl : lv_has ls 2 [(0, .ref (t 0)), (1, .int 0)] := hl
  have hw : zHw x A s.heap (zTW x t S lk) s.heap [] := hw
  refine lv_iload_n hx hb dX3_rowOfHoles_0 rfl (lv_at hl 1 rfl) ?_
  refine lv_tableIn (off := 35) (tgt := 36) hx hb dX3_rowOfHoles_1 (by decide) (by decide) (by decide) (by decide) ?_
  refine lv_aload_n hx hb dX3_rowOfHoles_36 rfl (lv_at hl 0 rfl) ?_
  refine gfX3_43 hx hb hown hts hK hw 0 rfl rfl dX3_rowOfHoles_37 ?_
  exact zFG.aret hx hb hr (by first | exact Or.inl ⟨_, rfl⟩ | exact Or.inr ⟨_, rfl⟩) (by first | exact Or.inl rfl | exact Or.inr ⟨_, rfl⟩) hlocks hQ hw rfl dX3_rowOfHoles_40 ⟨rfl, rfl⟩

set_option maxHeartbeats 4000000 in
set_option maxRecDepth 100000 in
theorem c_X3_rowOfHoles_1 (x : zX) (t : Nat → Nat) (S : zT) (lk : Int32) : zFF x mX3_rowOfHoles 0 [.ref (t 0), .int 1] (zTW x t S lk) (some (.ref (t 4))) (zTW x t S lk) := by
  refine zFG.start RX3 cX3_rowOfHoles 2 (some (.array .int)) rfl rfl (by decide +kernel) (Nat.le_of_ble_eq_true rfl) ?_
  intro p e s m ar below meth c ls A Q hx hb hr hml hown hts hlocks hK hE hA hQ hl hw
  have hl : lv_has ls 2 [(0, .ref (t 0)), (1, .int 1)] := hl
  have hw : zHw x A s.heap (zTW x t S lk) s.heap [] := hw
  refine lv_iload_n hx hb dX3_rowOfHoles_0 rfl (lv_at hl 1 rfl) ?_
  refine lv_tableIn (off := 40) (tgt := 41) hx hb dX3_rowOfHoles_1 (by decide) (by decide) (by decide) (by decide) ?_
  refine lv_aload_n hx hb dX3_rowOfHoles_41 rfl (lv_at hl 0 rfl) ?_
  refine gfX3_46 hx hb hown hts hK hw 0 rfl rfl dX3_rowOfHoles_42 ?_
  exact zFG.aret hx hb hr (by first | exact Or.inl ⟨_, rfl⟩ | exact Or.inr ⟨_, rfl⟩) (by first | exact Or.inl rfl | exact Or.inr ⟨_, rfl⟩) hlocks hQ hw rfl dX3_rowOfHoles_45 ⟨rfl, rfl⟩

set_option maxHeartbeats 4000000 in
set_option maxRecDepth 100000 in
theorem c_X3_rowOfHoles_2 (x : zX) (t : Nat → Nat) (S : zT) (lk : Int32) : zFF x mX3_rowOfHoles 0 [.ref (t 0), .int 2] (zTW x t S lk) (some (.ref (t 5))) (zTW x t S lk) := by
  refine zFG.start RX3 cX3_rowOfHoles 2 (some (.array .int)) rfl rfl (by decide +kernel) (Nat.le_of_ble_eq_true rfl) ?_
  intro p e s m ar below meth c ls A Q hx hb hr hml hown hts hlocks hK hE hA hQ hl hw
  have hl : lv_has ls 2 [(0, .ref (t 0)), (1, .int 2)] := hl
  have hw : zHw x A s.heap (zTW x t S lk) s.heap [] := hw
  refine lv_iload_n hx hb dX3_rowOfHoles_0 rfl (lv_at hl 1 rfl) ?_
  refine lv_tableIn (off := 45) (tgt := 46) hx hb dX3_rowOfHoles_1 (by decide) (by decide) (by decide) (by decide) ?_
  refine lv_aload_n hx hb dX3_rowOfHoles_46 rfl (lv_at hl 0 rfl) ?_
  refine gfX3_49 hx hb hown hts hK hw 0 rfl rfl dX3_rowOfHoles_47 ?_
  exact zFG.aret hx hb hr (by first | exact Or.inl ⟨_, rfl⟩ | exact Or.inr ⟨_, rfl⟩) (by first | exact Or.inl rfl | exact Or.inr ⟨_, rfl⟩) hlocks hQ hw rfl dX3_rowOfHoles_50 ⟨rfl, rfl⟩

set_option maxHeartbeats 4000000 in
set_option maxRecDepth 100000 in
theorem c_X3_rowOfHoles_3 (x : zX) (t : Nat → Nat) (S : zT) (lk : Int32) : zFF x mX3_rowOfHoles 0 [.ref (t 0), .int 3] (zTW x t S lk) (some (.ref (t 6))) (zTW x t S lk) := by
  refine zFG.start RX3 cX3_rowOfHoles 2 (some (.array .int)) rfl rfl (by decide +kernel) (Nat.le_of_ble_eq_true rfl) ?_
  intro p e s m ar below meth c ls A Q hx hb hr hml hown hts hlocks hK hE hA hQ hl hw
  have hl : lv_has ls 2 [(0, .ref (t 0)), (1, .int 3)] := hl
  have hw : zHw x A s.heap (zTW x t S lk) s.heap [] := hw
  refine lv_iload_n hx hb dX3_rowOfHoles_0 rfl (lv_at hl 1 rfl) ?_
  refine lv_tableIn (off := 50) (tgt := 51) hx hb dX3_rowOfHoles_1 (by decide) (by decide) (by decide) (by decide) ?_
  refine lv_aload_n hx hb dX3_rowOfHoles_51 rfl (lv_at hl 0 rfl) ?_
  refine gfX3_52 hx hb hown hts hK hw 0 rfl rfl dX3_rowOfHoles_52 ?_
  exact zFG.aret hx hb hr (by first | exact Or.inl ⟨_, rfl⟩ | exact Or.inr ⟨_, rfl⟩) (by first | exact Or.inl rfl | exact Or.inr ⟨_, rfl⟩) hlocks hQ hw rfl dX3_rowOfHoles_55 ⟨rfl, rfl⟩

set_option maxHeartbeats 4000000 in
set_option maxRecDepth 100000 in
theorem c_X3_rowOfHoles_4 (x : zX) (t : Nat → Nat) (S : zT) (lk : Int32) : zFF x mX3_rowOfHoles 0 [.ref (t 0), .int 4] (zTW x t S lk) (some (.ref (t 7))) (zTW x t S lk) := by
  refine zFG.start RX3 cX3_rowOfHoles 2 (some (.array .int)) rfl rfl (by decide +kernel) (Nat.le_of_ble_eq_true rfl) ?_
  intro p e s m ar below meth c ls A Q hx hb hr hml hown hts hlocks hK hE hA hQ hl hw
  have hl : lv_has ls 2 [(0, .ref (t 0)), (1, .int 4)] := hl
  have hw : zHw x A s.heap (zTW x t S lk) s.heap [] := hw
  refine lv_iload_n hx hb dX3_rowOfHoles_0 rfl (lv_at hl 1 rfl) ?_
  refine lv_tableIn (off := 55) (tgt := 56) hx hb dX3_rowOfHoles_1 (by decide) (by decide) (by decide) (by decide) ?_
  refine lv_aload_n hx hb dX3_rowOfHoles_56 rfl (lv_at hl 0 rfl) ?_
  refine gfX3_55 hx hb hown hts hK hw 0 rfl rfl dX3_rowOfHoles_57 ?_
  exact zFG.aret hx hb hr (by first | exact Or.inl ⟨_, rfl⟩ | exact Or.inr ⟨_, rfl⟩) (by first | exact Or.inl rfl | exact Or.inr ⟨_, rfl⟩) hlocks hQ hw rfl dX3_rowOfHoles_60 ⟨rfl, rfl⟩

set_option maxHeartbeats 4000000 in
set_option maxRecDepth 100000 in
theorem c_X3_rowOfHoles_5 (x : zX) (t : Nat → Nat) (S : zT) (lk : Int32) : zFF x mX3_rowOfHoles 0 [.ref (t 0), .int 5] (zTW x t S lk) (some (.ref (t 8))) (zTW x t S lk) := by
  refine zFG.start RX3 cX3_rowOfHoles 2 (some (.array .int)) rfl rfl (by decide +kernel) (Nat.le_of_ble_eq_true rfl) ?_
  intro p e s m ar below meth c ls A Q hx hb hr hml hown hts hlocks hK hE hA hQ hl hw
  have hl : lv_has ls 2 [(0, .ref (t 0)), (1, .int 5)] := hl
  have hw : zHw x A s.heap (zTW x t S lk) s.heap [] := hw
  refine lv_iload_n hx hb dX3_rowOfHoles_0 rfl (lv_at hl 1 rfl) ?_
  refine lv_tableOut (tgt := 61) hx hb dX3_rowOfHoles_1 (by decide) (by decide) ?_
  refine lv_aload_n hx hb dX3_rowOfHoles_61 rfl (lv_at hl 0 rfl) ?_
  refine gfX3_58 hx hb hown hts hK hw 0 rfl rfl dX3_rowOfHoles_62 ?_
  exact zFG.aret hx hb hr (by first | exact Or.inl ⟨_, rfl⟩ | exact Or.inr ⟨_, rfl⟩) (by first | exact Or.inl rfl | exact Or.inr ⟨_, rfl⟩) hlocks hQ hw rfl dX3_rowOfHoles_65 ⟨rfl, rfl⟩

set_option maxHeartbeats 4000000 in
set_option maxRecDepth 100000 in
theorem c_X3_changeFigure (x : zX) (t : Nat → Nat) (S : zT) (lk : Int32) (w : Nat) (v : Int32) (hw4 : w < 4) : zFF x mX3_changeFigure 0 [.ref (t 0), .int (nI w), .int v] (zTW x t S lk) (some (.int (S 0 (2 + w)))) (zTW x t (zU S 0 (2 + w) v) lk) := by
  refine zFG.start RX3 cX3_changeFigure 4 (some .int) rfl rfl (by decide +kernel) (Nat.le_of_ble_eq_true rfl) ?_
  intro p e s m ar below meth c ls A Q hx hb hr hml hown hts hlocks hK hE hA hQ hl hw
  have hl : lv_has ls 4 [(0, .ref (t 0)), (1, .int (nI w)), (2, .int v)] := hl
  have hw : zHw x A s.heap (zTW x t S lk) s.heap [] := hw
  refine lv_iload_n hx hb dX3_changeFigure_0 rfl (lv_at hl 1 rfl) ?_
  rcases Decidable.em (nI w = 0) with k0 | k0
  · refine W.eq (g2 := F0 m 1 ls (.int 0 :: [])) (by rw [k0]) ?_
    refine lv_tableIn (off := 27) (tgt := 28) hx hb dX3_changeFigure_1 (by decide) (by decide) (by decide) (by decide) ?_
    refine lv_aload_n hx hb dX3_changeFigure_28 rfl (lv_at hl 0 rfl) ?_
    refine gfX3_15 hx hb hown hts hK hw 0 rfl rfl dX3_changeFigure_29 ?_
    refine lv_istore_n (lv' := [(3, .int (S 0 2)), (0, .ref (t 0)), (1, .int (nI w)), (2, .int v)]) hx hb dX3_changeFigure_32 rfl hl (by decide) rfl (fun ls hl => ?_)
    refine lv_aload_n hx hb dX3_changeFigure_33 rfl (lv_at hl 1 rfl) ?_
    refine lv_iload_n hx hb dX3_changeFigure_34 rfl (lv_at hl 3 rfl) ?_
    refine pfX3_15 hx hb hown hts hK hw 0 rfl (Nat.le_of_ble_eq_true rfl) dX3_changeFigure_35 (fun H locs hw => ?_)
    have hw : zHw x A s.heap (zTW x t (zU S 0 2 v) lk) H locs := hw
    refine lv_iload_n hx hb dX3_changeFigure_38 rfl (lv_at hl 0 rfl) ?_
    exact zFG.iret hx hb hr hlocks hQ hw rfl dX3_changeFigure_39 (by
        obtain rfl : w = 0 := (nI_eq (by omega) (by omega)).mp k0
        exact ⟨rfl, rfl⟩)
  rcases Decidable.em (nI w = 1) with k1 | k1
  · refine W.eq (g2 := F0 m 1 ls (.int 1 :: [])) (by rw [k1]) ?_
    refine lv_tableIn (off := 39) (tgt := 40) hx hb dX3_changeFigure_1 (by decide) (by decide) (by decide) (by decide) ?_
    refine lv_aload_n hx hb dX3_changeFigure_40 rfl (lv_at hl 0 rfl) ?_
    refine gfX3_18 hx hb hown hts hK hw 0 rfl rfl dX3_changeFigure_41 ?_
    refine lv_istore_n (lv' := [(3, .int (S 0 3)), (0, .ref (t 0)), (1, .int (nI w)), (2, .int v)]) hx hb dX3_changeFigure_44 rfl hl (by decide) rfl (fun ls hl => ?_)
    refine lv_aload_n hx hb dX3_changeFigure_45 rfl (lv_at hl 1 rfl) ?_
    refine lv_iload_n hx hb dX3_changeFigure_46 rfl (lv_at hl 3 rfl) ?_
    refine pfX3_18 hx hb hown hts hK hw 0 rfl (Nat.le_of_ble_eq_true rfl) dX3_changeFigure_47 (fun H locs hw => ?_)
    have hw : zHw x A s.heap (zTW x t (zU S 0 3 v) lk) H locs := hw
    refine lv_iload_n hx hb dX3_changeFigure_50 rfl (lv_at hl 0 rfl) ?_
    exact zFG.iret hx hb hr hlocks hQ hw rfl dX3_changeFigure_51 (by
        obtain rfl : w = 1 := (nI_eq (by omega) (by omega)).mp k1
        exact ⟨rfl, rfl⟩)
  rcases Decidable.em (nI w = 2) with k2 | k2
  · refine W.eq (g2 := F0 m 1 ls (.int 2 :: [])) (by rw [k2]) ?_
    refine lv_tableIn (off := 51) (tgt := 52) hx hb dX3_changeFigure_1 (by decide) (by decide) (by decide) (by decide) ?_
    refine lv_aload_n hx hb dX3_changeFigure_52 rfl (lv_at hl 0 rfl) ?_
    refine gfX3_21 hx hb hown hts hK hw 0 rfl rfl dX3_changeFigure_53 ?_
    refine lv_istore_n (lv' := [(3, .int (S 0 4)), (0, .ref (t 0)), (1, .int (nI w)), (2, .int v)]) hx hb dX3_changeFigure_56 rfl hl (by decide) rfl (fun ls hl => ?_)
    refine lv_aload_n hx hb dX3_changeFigure_57 rfl (lv_at hl 1 rfl) ?_
    refine lv_iload_n hx hb dX3_changeFigure_58 rfl (lv_at hl 3 rfl) ?_
    refine pfX3_21 hx hb hown hts hK hw 0 rfl (Nat.le_of_ble_eq_true rfl) dX3_changeFigure_59 (fun H locs hw => ?_)
    have hw : zHw x A s.heap (zTW x t (zU S 0 4 v) lk) H locs := hw
    refine lv_iload_n hx hb dX3_changeFigure_62 rfl (lv_at hl 0 rfl) ?_
    exact zFG.iret hx hb hr hlocks hQ hw rfl dX3_changeFigure_63 (by
        obtain rfl : w = 2 := (nI_eq (by omega) (by omega)).mp k2
        exact ⟨rfl, rfl⟩)
  refine lv_tableOut (tgt := 64) hx hb dX3_changeFigure_1 (zout3 k0 k1 k2) (by decide) ?_
  refine lv_aload_n hx hb dX3_changeFigure_64 rfl (lv_at hl 0 rfl) ?_
  refine gfX3_24 hx hb hown hts hK hw 0 rfl rfl dX3_changeFigure_65 ?_
  refine lv_istore_n (lv' := [(3, .int (S 0 5)), (0, .ref (t 0)), (1, .int (nI w)), (2, .int v)]) hx hb dX3_changeFigure_68 rfl hl (by decide) rfl (fun ls hl => ?_)
  refine lv_aload_n hx hb dX3_changeFigure_69 rfl (lv_at hl 1 rfl) ?_
  refine lv_iload_n hx hb dX3_changeFigure_70 rfl (lv_at hl 3 rfl) ?_
  refine pfX3_24 hx hb hown hts hK hw 0 rfl (Nat.le_of_ble_eq_true rfl) dX3_changeFigure_71 (fun H locs hw => ?_)
  have hw : zHw x A s.heap (zTW x t (zU S 0 5 v) lk) H locs := hw
  refine lv_iload_n hx hb dX3_changeFigure_74 rfl (lv_at hl 0 rfl) ?_
  exact zFG.iret hx hb hr hlocks hQ hw rfl dX3_changeFigure_75 (by
      obtain rfl : w = 3 := by
        have h0 : ¬ w = 0 := fun e => k0 (congrArg nI e)
        have h1 : ¬ w = 1 := fun e => k1 (congrArg nI e)
        have h2 : ¬ w = 2 := fun e => k2 (congrArg nI e)
        omega
      exact ⟨rfl, rfl⟩)
