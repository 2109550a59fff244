set_option maxHeartbeats 4000000 in
set_option maxRecDepth 100000 in
theorem c_X6_byteAt (x : zX) (a : Nat → Nat) (q : Nat → Int32) (g : zT) (nu : Nat → Nat → Int64) (f : Nat → Int32) (k n : Nat) (hn1 : q 1 = nI n) (hn : n ≤ 120) (hk : k ≤ 120) : zFF x mX6_byteAt 0 [.ref (a 0), .int (nI k)] (zMW x a q g nu f) (some (.int (zBy (g 6) n k))) (zMW x a q g nu f) := by
  refine zFG.start RX6 cX6_byteAt 2 (some .int) rfl rfl (by decide +kernel) (Nat.le_of_ble_eq_true rfl) ?_
  intro p e s m ar below meth c ls A Q hx hb hr hml hown hts hlocks hK hE hA hQ hl hw
  have hl : lv_has ls 2 [(0, .ref (a 0)), (1, .int (nI k))] := hl
  have hw : zHw x A s.heap (zMW x a q g nu f) s.heap [] := hw
  refine lv_iload_n hx hb dX6_byteAt_0 rfl (lv_at hl 1 rfl) ?_
  refine lv_aload_n hx hb dX6_byteAt_1 rfl (lv_at hl 0 rfl) ?_
  refine gfX6_183 hx hb hown hts hK hw 0 rfl rfl dX6_byteAt_2 ?_
  refine lv_icmp_ge (tgt := 17) hx hb dX6_byteAt_5 (by decide) (fun c5 => ?_) (fun c5 => ?_)
  · refine lv_iconst (v := (-1)) hx hb dX6_byteAt_17 (by decide) ?_
    exact zFG.iret hx hb hr hlocks hQ hw rfl dX6_byteAt_18 ⟨zsi (by unfold zBy; first | (rw [if_pos hkn]; done) | (rw [if_neg (fun h => by rw [hn1] at c5; exact absurd c5 (nI_ge h (by omega)))]; done)), rfl⟩
  · have hkn : k < n := by
      rw [hn1] at c5
      exact Nat.lt_of_not_le (fun h => c5 (nI_le h (by omega)))
    refine lv_aload_n hx hb dX6_byteAt_8 rfl (lv_at hl 0 rfl) ?_
    refine gfX6_25 hx hb hown hts hK hw 0 rfl rfl dX6_byteAt_9 ?_
    refine lv_iload_n hx hb dX6_byteAt_12 rfl (lv_at hl 1 rfl) ?_
    refine zial hx hb hK hw 6 0 k rfl rfl rfl (by omega) (by decide) dX6_byteAt_13 ?_
    refine lv_goto (tgt := 18) hx hb dX6_byteAt_14 (by decide) ?_
    exact zFG.iret hx hb hr hlocks hQ hw rfl dX6_byteAt_18 ⟨zsi (by unfold zBy; first | (rw [if_pos hkn]; done) | (rw [if_neg (fun h => by rw [hn1] at c5; exact absurd c5 (nI_ge h (by omega)))]; done)), rfl⟩

set_option maxHeartbeats 4000000 in
set_option maxRecDepth 100000 in
theorem c_X6_isLetter (x : zX) (w : va_W) (B : Nat → Int32) (n k : Nat) : zFF x mX6_isLetter 1 [.int (zBy B n k)] (w) (some (.int (zb (zLt B n k)))) (w) := by
  refine zFG.start RX6 cX6_isLetter 1 (some .boolean) rfl rfl (by decide +kernel) (Nat.le_of_ble_eq_true rfl) ?_
  intro p e s m ar below meth c ls A Q hx hb hr hml hown hts hlocks hK hE hA hQ hl hw
  have hl : lv_has ls 1 [(0, .int (zBy B n k))] := hl
  have hw : zHw x A s.heap (w) s.heap [] := hw
  refine lv_iload_n hx hb dX6_isLetter_0 rfl (lv_at hl 0 rfl) ?_
  refine lv_i2l hx hb dX6_isLetter_1 rfl ?_
  refine lv_ldc2 (v := 97) hx hb hown (hts _ ckX6_187) dX6_isLetter_2 ?_
  refine lv_ldc2 (v := 122) hx hb hown (hts _ ckX6_189) dX6_isLetter_5 ?_
  refine zcSwi (r := zb (97 ≤ (zBy B n k) ∧ (zBy B n k) ≤ 122)) hx hb hml hown hts hl.1 hK hE hA lkX6_48 (c_X6_inI x (w) (zBy B n k) 97 122) ⟨Nat.le_of_ble_eq_true rfl, Nat.le_of_ble_eq_true rfl⟩ ⟨Nat.zero_le _, Nat.zero_le _⟩ hw rfl rfl (Nat.le_of_ble_eq_true rfl) dX6_isLetter_8 (fun H locs hw => ?_)
  have hw : zHw x A s.heap (w) H locs := hw
  exact zFG.zret hx hb hr hlocks hQ hw rfl dX6_isLetter_11 (zb2i_nar _) ⟨zsi (zb_iff zBy_L), rfl⟩

set_option maxHeartbeats 4000000 in
set_option maxRecDepth 100000 in
theorem c_X6_isDigit (x : zX) (w : va_W) (B : Nat → Int32) (n k : Nat) : zFF x mX6_isDigit 1 [.int (zBy B n k)] (w) (some (.int (zb (zDg B n k)))) (w) := by
  refine zFG.start RX6 cX6_isDigit 1 (some .boolean) rfl rfl (by decide +kernel) (Nat.le_of_ble_eq_true rfl) ?_
  intro p e s m ar below meth c ls A Q hx hb hr hml hown hts hlocks hK hE hA hQ hl hw
  have hl : lv_has ls 1 [(0, .int (zBy B n k))] := hl
  have hw : zHw x A s.heap (w) s.heap [] := hw
  refine lv_iload_n hx hb dX6_isDigit_0 rfl (lv_at hl 0 rfl) ?_
  refine lv_i2l hx hb dX6_isDigit_1 rfl ?_
  refine lv_ldc2 (v := 48) hx hb hown (hts _ ckX6_191) dX6_isDigit_2 ?_
  refine lv_ldc2 (v := 57) hx hb hown (hts _ ckX6_193) dX6_isDigit_5 ?_
  refine zcSwi (r := zb (48 ≤ (zBy B n k) ∧ (zBy B n k) ≤ 57)) hx hb hml hown hts hl.1 hK hE hA lkX6_48 (c_X6_inI x (w) (zBy B n k) 48 57) ⟨Nat.le_of_ble_eq_true rfl, Nat.le_of_ble_eq_true rfl⟩ ⟨Nat.zero_le _, Nat.zero_le _⟩ hw rfl rfl (Nat.le_of_ble_eq_true rfl) dX6_isDigit_8 (fun H locs hw => ?_)
  have hw : zHw x A s.heap (w) H locs := hw
  exact zFG.zret hx hb hr hlocks hQ hw rfl dX6_isDigit_11 (zb2i_nar _) ⟨zsi (zb_iff zBy_D), rfl⟩

set_option maxHeartbeats 4000000 in
set_option maxRecDepth 100000 in
theorem c_X6_token (x : zX) (a : Nat → Nat) (q : Nat → Int32) (g : zT) (nu : Nat → Nat → Int64) (f : Nat → Int32) (p0 n : Nat) (hn1 : q 1 = nI n) (hp : q 3 = nI p0) (hpn : p0 ≤ n) (hn : n ≤ 120) : zFF x mX6_token 2 [.ref (a 0)] (zMW x a q g nu f) none (zMW x a (zTq (g 6) n (zRu (g 6) n 32 32 p0) (q 0) (q 4) (q 5)) g nu f) := by
  refine zFG.start RX6 cX6_token 3 none rfl rfl (by decide +kernel) (Nat.le_of_ble_eq_true rfl) ?_
  intro p e s m ar below meth c ls A Q hx hb hr hml hown hts hlocks hK hE hA hQ hl hw
  have hl : lv_has ls 3 [(0, .ref (a 0))] := hl
  have hw : zHw x A s.heap (zMW x a q g nu f) s.heap [] := hw
  refine lv_aload_n hx hb dX6_token_0 rfl (lv_at hl 0 rfl) ?_
  refine lv_aload_n hx hb dX6_token_1 rfl (lv_at hl 0 rfl) ?_
  refine gfX6_195 hx hb hown hts hK hw 0 rfl rfl dX6_token_2 ?_
  refine W.eq (g2 := F0 m 5 ls [.int (nI p0), .ref (a 0)]) (by rw [hp]) ?_
  refine pfX6_198 hx hb hown hts hK hw 0 rfl (Nat.le_of_ble_eq_true rfl) dX6_token_5 (fun H locs hw => ?_)
  have hw : zHw x A s.heap (zMW x a (upd q 2 (nI p0)) g nu f) H locs := hw
  have loop8 : ∀ (dd : Nat) (k : Nat), n - k < dd → (hk : k ≤ n) → (e1 : zRu (g 6) n 32 32 k = zRu (g 6) n 32 32 p0) → ∀ (H : Heap) (locs : List Loc) (ls : Array Slot), zHw x A s.heap (zMW x a (upd q 2 (nI k)) g nu f) H locs → lv_has ls 3 [(0, .ref (a 0))] → W p x.1 e (zRM 2) s m ar below meth c H locs 0 0 Q (F0 m 8 ls []) := by
    intro dd
    induction dd with
    | zero => intro k hm; exact absurd hm (Nat.not_lt_zero _)
    | succ dd ih8 =>
      intro k hm hk e1 H locs ls hw hl
      refine lv_aload_n hx hb dX6_token_8 rfl (lv_at hl 0 rfl) ?_
      refine lv_aload_n hx hb dX6_token_9 rfl (lv_at hl 0 rfl) ?_
      refine gfX6_198 hx hb hown hts hK hw 0 rfl rfl dX6_token_10 ?_
      refine W.eq (g2 := F0 m 13 ls [.int (nI k), .ref (a 0)]) (by rfl) ?_
      refine zcVwi (r := zBy (g 6) n k) hx hb hml hown hts hl.1 hK hE hA lkX6_201 (c_X6_byteAt x a (upd q 2 (nI k)) g nu f k n (hn1) hn (by omega)) ⟨Nat.le_of_ble_eq_true rfl, Nat.le_of_ble_eq_true rfl⟩ ⟨Nat.zero_le _, Nat.zero_le _⟩ hw 0 4 rfl rfl rfl rfl (Nat.le_of_ble_eq_true rfl) dX6_token_13 (fun H locs hw => ?_)
      have hw : zHw x A s.heap (zMW x a (upd q 2 (nI k)) g nu f) H locs := hw
      refine lv_bipush (v := 32) hx hb dX6_token_16 (by decide) ?_
      refine lv_icmp_ne (tgt := 34) hx hb dX6_token_18 (by decide) (fun c18 => ?_) (fun c18 => ?_)
      · have hs : zRu (g 6) n 32 32 p0 = k := e1.symm.trans (zRu_f (fun h => c18 (zBy_32.mpr h)))
        refine lv_aload_n hx hb dX6_token_34 rfl (lv_at hl 0 rfl) ?_
        refine lv_aload_n hx hb dX6_token_35 rfl (lv_at hl 0 rfl) ?_
        refine gfX6_198 hx hb hown hts hK hw 0 rfl rfl dX6_token_36 ?_
        refine W.eq (g2 := F0 m 39 ls [.int (nI k), .ref (a 0)]) (by rfl) ?_
        refine zcVwi (r := zBy (g 6) n k) hx hb hml hown hts hl.1 hK hE hA lkX6_201 (c_X6_byteAt x a (upd q 2 (nI k)) g nu f k n (hn1) hn (by omega)) ⟨Nat.le_of_ble_eq_true rfl, Nat.le_of_ble_eq_true rfl⟩ ⟨Nat.zero_le _, Nat.zero_le _⟩ hw 0 4 rfl rfl rfl rfl (Nat.le_of_ble_eq_true rfl) dX6_token_39 (fun H locs hw => ?_)
        have hw : zHw x A s.heap (zMW x a (upd q 2 (nI k)) g nu f) H locs := hw
        refine zcSwi (r := zb (zLt (g 6) n k)) hx hb hml hown hts hl.1 hK hE hA lkX6_204 (c_X6_isLetter x (zMW x a (upd q 2 (nI k)) g nu f) (g 6) n k) ⟨Nat.le_of_ble_eq_true rfl, Nat.le_of_ble_eq_true rfl⟩ ⟨Nat.zero_le _, Nat.zero_le _⟩ hw rfl rfl (Nat.le_of_ble_eq_true rfl) dX6_token_42 (fun H locs hw => ?_)
        have hw : zHw x A s.heap (zMW x a (upd q 2 (nI k)) g nu f) H locs := hw
        refine lv_istore_n (lv' := [(1, .int (zb (zLt (g 6) n k))), (0, .ref (a 0))]) hx hb dX6_token_45 rfl hl (by decide) rfl (fun ls hl => ?_)
        refine lv_aload_n hx hb dX6_token_46 rfl (lv_at hl 1 rfl) ?_
        refine lv_aload_n hx hb dX6_token_47 rfl (lv_at hl 1 rfl) ?_
        refine gfX6_198 hx hb hown hts hK hw 0 rfl rfl dX6_token_48 ?_
        refine W.eq (g2 := F0 m 51 ls [.int (nI k), .ref (a 0)]) (by rfl) ?_
        refine zcVwi (r := zBy (g 6) n k) hx hb hml hown hts hl.1 hK hE hA lkX6_201 (c_X6_byteAt x a (upd q 2 (nI k)) g nu f k n (hn1) hn (by omega)) ⟨Nat.le_of_ble_eq_true rfl, Nat.le_of_ble_eq_true rfl⟩ ⟨Nat.zero_le _, Nat.zero_le _⟩ hw 0 4 rfl rfl rfl rfl (Nat.le_of_ble_eq_true rfl) dX6_token_51 (fun H locs hw => ?_)
        have hw : zHw x A s.heap (zMW x a (upd q 2 (nI k)) g nu f) H locs := hw
        refine zcSwi (r := zb (zDg (g 6) n k)) hx hb hml hown hts hl.1 hK hE hA lkX6_207 (c_X6_isDigit x (zMW x a (upd q 2 (nI k)) g nu f) (g 6) n k) ⟨Nat.le_of_ble_eq_true rfl, Nat.le_of_ble_eq_true rfl⟩ ⟨Nat.zero_le _, Nat.zero_le _⟩ hw rfl rfl (Nat.le_of_ble_eq_true rfl) dX6_token_54 (fun H locs hw => ?_)
        have hw : zHw x A s.heap (zMW x a (upd q 2 (nI k)) g nu f) H locs := hw
        refine lv_istore_n (lv' := [(2, .int (zb (zDg (g 6) n k))), (1, .int (zb (zLt (g 6) n k))), (0, .ref (a 0))]) hx hb dX6_token_57 rfl hl (by decide) rfl (fun ls hl => ?_)
        refine lv_aload_n hx hb dX6_token_58 rfl (lv_at hl 2 rfl) ?_
        refine lv_aload_n hx hb dX6_token_59 rfl (lv_at hl 2 rfl) ?_
        refine gfX6_198 hx hb hown hts hK hw 0 rfl rfl dX6_token_60 ?_
        refine W.eq (g2 := F0 m 63 ls [.int (nI k), .ref (a 0)]) (by rfl) ?_
        refine lv_aload_n hx hb dX6_token_63 rfl (lv_at hl 2 rfl) ?_
        refine gfX6_183 hx hb hown hts hK hw 0 rfl rfl dX6_token_64 ?_
        refine W.eq (g2 := F0 m 67 ls [.int (nI n), .int (nI k), .ref (a 0)]) (by rw [show upd q 2 (nI k) 1 = nI n from hn1]) ?_
        refine lv_icmp_ge (tgt := 79) hx hb dX6_token_67 (by decide) (fun c67 => ?_) (fun c67 => ?_)
        · have hkn : ¬ k < n := fun h => absurd c67 (nI_ge h (by omega))
          refine lv_aload_n hx hb dX6_token_79 rfl (lv_at hl 2 rfl) ?_
          refine gfX6_198 hx hb hown hts hK hw 0 rfl rfl dX6_token_80 ?_
          refine W.eq (g2 := F0 m 83 ls [.int (nI k), .ref (a 0)]) (by rfl) ?_
          refine pfX6_195 hx hb hown hts hK hw 0 rfl (Nat.le_of_ble_eq_true rfl) dX6_token_83 (fun H locs hw => ?_)
          have hw : zHw x A s.heap (zMW x a (upd (upd q 2 (nI k)) 3 (nI k)) g nu f) H locs := hw
          have loop86 : ∀ (dd : Nat) (j : Nat), n - j < dd → (hkj : k ≤ j) → (hj : j ≤ n) → (e2 : zEj (g 6) n k j = zEn (g 6) n k) → ∀ (H : Heap) (locs : List Loc) (ls : Array Slot), zHw x A s.heap (zMW x a (upd (upd q 2 (nI k)) 3 (nI j)) g nu f) H locs → lv_has ls 3 [(0, .ref (a 0)), (1, .int (zb (zLt (g 6) n k))), (2, .int (zb (zDg (g 6) n k)))] → W p x.1 e (zRM 2) s m ar below meth c H locs 0 0 Q (F0 m 86 ls []) := by
            intro dd
            induction dd with
            | zero => intro j hm; exact absurd hm (Nat.not_lt_zero _)
            | succ dd ih86 =>
              intro j hm hkj hj e2 H locs ls hw hl
              refine lv_iload_n hx hb dX6_token_86 rfl (lv_at hl 1 rfl) ?_
              refine lv_if_eq (tgt := 104) hx hb dX6_token_87 (by decide) (fun c87 => ?_) (fun c87 => ?_)
              · have c87 := zb_0.mp c87
                refine lv_iload_n hx hb dX6_token_104 rfl (lv_at hl 2 rfl) ?_
                refine lv_if_eq (tgt := 135) hx hb dX6_token_105 (by decide) (fun c105 => ?_) (fun c105 => ?_)
                · have c105 := zb_0.mp c105
                  exact zFG.vret hx hb hr hlocks hQ hw rfl dX6_token_135 ⟨rfl, zMW6 rfl hn1 (congrArg nI hs.symm) (congrArg nI (by rw [hs, ← e2, zEj_xN c87 c105])) rfl rfl⟩
                · have c105 := zb_n0.mp c105
                  refine lv_aload_n hx hb dX6_token_108 rfl (lv_at hl 0 rfl) ?_
                  refine lv_aload_n hx hb dX6_token_109 rfl (lv_at hl 0 rfl) ?_
                  refine gfX6_195 hx hb hown hts hK hw 0 rfl rfl dX6_token_110 ?_
                  refine W.eq (g2 := F0 m 113 ls [.int (nI j), .ref (a 0)]) (by rfl) ?_
                  refine zcVwi (r := zBy (g 6) n j) hx hb hml hown hts hl.1 hK hE hA lkX6_201 (c_X6_byteAt x a (upd (upd q 2 (nI k)) 3 (nI j)) g nu f j n (hn1) hn (by omega)) ⟨Nat.le_of_ble_eq_true rfl, Nat.le_of_ble_eq_true rfl⟩ ⟨Nat.zero_le _, Nat.zero_le _⟩ hw 0 4 rfl rfl rfl rfl (Nat.le_of_ble_eq_true rfl) dX6_token_113 (fun H locs hw => ?_)
                  have hw : zHw x A s.heap (zMW x a (upd (upd q 2 (nI k)) 3 (nI j)) g nu f) H locs := hw
                  refine zcSwi (r := zb (zDg (g 6) n j)) hx hb hml hown hts hl.1 hK hE hA lkX6_207 (c_X6_isDigit x (zMW x a (upd (upd q 2 (nI k)) 3 (nI j)) g nu f) (g 6) n j) ⟨Nat.le_of_ble_eq_true rfl, Nat.le_of_ble_eq_true rfl⟩ ⟨Nat.zero_le _, Nat.zero_le _⟩ hw rfl rfl (Nat.le_of_ble_eq_true rfl) dX6_token_116 (fun H locs hw => ?_)
                  have hw : zHw x A s.heap (zMW x a (upd (upd q 2 (nI k)) 3 (nI j)) g nu f) H locs := hw
                  refine lv_if_eq (tgt := 135) hx hb dX6_token_119 (by decide) (fun c119 => ?_) (fun c119 => ?_)
                  · have c119 := zb_0.mp c119
                    exact zFG.vret hx hb hr hlocks hQ hw rfl dX6_token_135 ⟨rfl, zMW6 rfl hn1 (congrArg nI hs.symm) (congrArg nI (by rw [hs, ← e2, zEj_xD c87 c105 c119])) rfl rfl⟩
                  · have c119 := zb_n0.mp c119
                    refine lv_aload_n hx hb dX6_token_122 rfl (lv_at hl 0 rfl) ?_
                    refine lv_dup hx hb dX6_token_123 rfl ?_
                    refine gfX6_195 hx hb hown hts hK hw 0 rfl rfl dX6_token_124 ?_
                    refine W.eq (g2 := F0 m 127 ls [.int (nI j), .ref (a 0)]) (by rfl) ?_
                    refine lv_iconst (v := 1) hx hb dX6_token_127 (by decide) ?_
                    refine lv_iadd hx hb dX6_token_128 ?_
                    refine pfX6_195 hx hb hown hts hK hw 0 rfl (Nat.le_of_ble_eq_true rfl) dX6_token_129 (fun H locs hw => ?_)
                    have hw : zHw x A s.heap (zMW x a (upd (upd (upd q 2 (nI k)) 3 (nI j)) 3 ((nI j) + 1)) g nu f) H locs := hw
                    refine lv_goto (tgt := 86) hx hb dX6_token_132 (by decide) ?_
                    exact ih86 (j + 1) (by omega) (by omega) (Nat.succ_le_of_lt c119.1) ((zEj_sD c87 c105 c119).trans e2) _ _ _ (hw.re (zMW6 rfl rfl rfl (nI_1 j) rfl rfl)) (lv_sub hl [0, 1, 2] rfl)
              · have c87 := zb_n0.mp c87
                refine lv_aload_n hx hb dX6_token_90 rfl (lv_at hl 0 rfl) ?_
                refine lv_aload_n hx hb dX6_token_91 rfl (lv_at hl 0 rfl) ?_
                refine gfX6_195 hx hb hown hts hK hw 0 rfl rfl dX6_token_92 ?_
                refine W.eq (g2 := F0 m 95 ls [.int (nI j), .ref (a 0)]) (by rfl) ?_
                refine zcVwi (r := zBy (g 6) n j) hx hb hml hown hts hl.1 hK hE hA lkX6_201 (c_X6_byteAt x a (upd (upd q 2 (nI k)) 3 (nI j)) g nu f j n (hn1) hn (by omega)) ⟨Nat.le_of_ble_eq_true rfl, Nat.le_of_ble_eq_true rfl⟩ ⟨Nat.zero_le _, Nat.zero_le _⟩ hw 0 4 rfl rfl rfl rfl (Nat.le_of_ble_eq_true rfl) dX6_token_95 (fun H locs hw => ?_)
                have hw : zHw x A s.heap (zMW x a (upd (upd q 2 (nI k)) 3 (nI j)) g nu f) H locs := hw
                refine zcSwi (r := zb (zLt (g 6) n j)) hx hb hml hown hts hl.1 hK hE hA lkX6_204 (c_X6_isLetter x (zMW x a (upd (upd q 2 (nI k)) 3 (nI j)) g nu f) (g 6) n j) ⟨Nat.le_of_ble_eq_true rfl, Nat.le_of_ble_eq_true rfl⟩ ⟨Nat.zero_le _, Nat.zero_le _⟩ hw rfl rfl (Nat.le_of_ble_eq_true rfl) dX6_token_98 (fun H locs hw => ?_)
                have hw : zHw x A s.heap (zMW x a (upd (upd q 2 (nI k)) 3 (nI j)) g nu f) H locs := hw
                refine lv_if_ne (tgt := 122) hx hb dX6_token_101 (by decide) (fun c101 => ?_) (fun c101 => ?_)
                · have c101 := zb_n0.mp c101
                  refine lv_aload_n hx hb dX6_token_122 rfl (lv_at hl 0 rfl) ?_
                  refine lv_dup hx hb dX6_token_123 rfl ?_
                  refine gfX6_195 hx hb hown hts hK hw 0 rfl rfl dX6_token_124 ?_
                  refine W.eq (g2 := F0 m 127 ls [.int (nI j), .ref (a 0)]) (by rfl) ?_
                  refine lv_iconst (v := 1) hx hb dX6_token_127 (by decide) ?_
                  refine lv_iadd hx hb dX6_token_128 ?_
                  refine pfX6_195 hx hb hown hts hK hw 0 rfl (Nat.le_of_ble_eq_true rfl) dX6_token_129 (fun H locs hw => ?_)
                  have hw : zHw x A s.heap (zMW x a (upd (upd (upd q 2 (nI k)) 3 (nI j)) 3 ((nI j) + 1)) g nu f) H locs := hw
                  refine lv_goto (tgt := 86) hx hb dX6_token_132 (by decide) ?_
                  exact ih86 (j + 1) (by omega) (by omega) (Nat.succ_le_of_lt c101.1) ((zEj_sL c87 c101).trans e2) _ _ _ (hw.re (zMW6 rfl rfl rfl (nI_1 j) rfl rfl)) (lv_sub hl [0, 1, 2] rfl)
                · have c101 := zb_0.mp c101
                  refine lv_iload_n hx hb dX6_token_104 rfl (lv_at hl 2 rfl) ?_
                  refine lv_if_eq (tgt := 135) hx hb dX6_token_105 (by decide) (fun c105 => ?_) (fun c105 => absurd (zb_0.mpr (zLD c87)) c105)
                  exact zFG.vret hx hb hr hlocks hQ hw rfl dX6_token_135 ⟨rfl, zMW6 rfl hn1 (congrArg nI hs.symm) (congrArg nI (by rw [hs, ← e2, zEj_xL c87 c101])) rfl rfl⟩
          exact loop86 (_ + 1) k (Nat.lt_succ_self _) (Nat.le_refl _) hk (zEj_1 hkn) _ _ _ hw (lv_sub hl [2, 1, 0] rfl)
        · have hkn : k < n := Nat.lt_of_not_le (fun h => c67 (nI_le h (by omega)))
          refine lv_aload_n hx hb dX6_token_70 rfl (lv_at hl 2 rfl) ?_
          refine gfX6_198 hx hb hown hts hK hw 0 rfl rfl dX6_token_71 ?_
          refine W.eq (g2 := F0 m 74 ls [.int (nI k), .ref (a 0)]) (by rfl) ?_
          refine lv_iconst (v := 1) hx hb dX6_token_74 (by decide) ?_
          refine lv_iadd hx hb dX6_token_75 ?_
          refine W.eq (g2 := F0 m 76 ls [.int (nI (k + 1)), .ref (a 0)]) (by rw [nI_1]) ?_
          refine lv_goto (tgt := 83) hx hb dX6_token_76 (by decide) ?_
          refine pfX6_195 hx hb hown hts hK hw 0 rfl (Nat.le_of_ble_eq_true rfl) dX6_token_83 (fun H locs hw => ?_)
          have hw : zHw x A s.heap (zMW x a (upd (upd q 2 (nI k)) 3 (nI (k + 1))) g nu f) H locs := hw
          have loop86 : ∀ (dd : Nat) (j : Nat), n - j < dd → (hkj : k ≤ j) → (hj : j ≤ n) → (e2 : zEj (g 6) n k j = zEn (g 6) n k) → ∀ (H : Heap) (locs : List Loc) (ls : Array Slot), zHw x A s.heap (zMW x a (upd (upd q 2 (nI k)) 3 (nI j)) g nu f) H locs → lv_has ls 3 [(0, .ref (a 0)), (1, .int (zb (zLt (g 6) n k))), (2, .int (zb (zDg (g 6) n k)))] → W p x.1 e (zRM 2) s m ar below meth c H locs 0 0 Q (F0 m 86 ls []) := by
            intro dd
            induction dd with
            | zero => intro j hm; exact absurd hm (Nat.not_lt_zero _)
            | succ dd ih86 =>
              intro j hm hkj hj e2 H locs ls hw hl
              refine lv_iload_n hx hb dX6_token_86 rfl (lv_at hl 1 rfl) ?_
              refine lv_if_eq (tgt := 104) hx hb dX6_token_87 (by decide) (fun c87 => ?_) (fun c87 => ?_)
              · have c87 := zb_0.mp c87
                refine lv_iload_n hx hb dX6_token_104 rfl (lv_at hl 2 rfl) ?_
                refine lv_if_eq (tgt := 135) hx hb dX6_token_105 (by decide) (fun c105 => ?_) (fun c105 => ?_)
                · have c105 := zb_0.mp c105
                  exact zFG.vret hx hb hr hlocks hQ hw rfl dX6_token_135 ⟨rfl, zMW6 rfl hn1 (congrArg nI hs.symm) (congrArg nI (by rw [hs, ← e2, zEj_xN c87 c105])) rfl rfl⟩
                · have c105 := zb_n0.mp c105
                  refine lv_aload_n hx hb dX6_token_108 rfl (lv_at hl 0 rfl) ?_
                  refine lv_aload_n hx hb dX6_token_109 rfl (lv_at hl 0 rfl) ?_
                  refine gfX6_195 hx hb hown hts hK hw 0 rfl rfl dX6_token_110 ?_
                  refine W.eq (g2 := F0 m 113 ls [.int (nI j), .ref (a 0)]) (by rfl) ?_
                  refine zcVwi (r := zBy (g 6) n j) hx hb hml hown hts hl.1 hK hE hA lkX6_201 (c_X6_byteAt x a (upd (upd q 2 (nI k)) 3 (nI j)) g nu f j n (hn1) hn (by omega)) ⟨Nat.le_of_ble_eq_true rfl, Nat.le_of_ble_eq_true rfl⟩ ⟨Nat.zero_le _, Nat.zero_le _⟩ hw 0 4 rfl rfl rfl rfl (Nat.le_of_ble_eq_true rfl) dX6_token_113 (fun H locs hw => ?_)
                  have hw : zHw x A s.heap (zMW x a (upd (upd q 2 (nI k)) 3 (nI j)) g nu f) H locs := hw
                  refine zcSwi (r := zb (zDg (g 6) n j)) hx hb hml hown hts hl.1 hK hE hA lkX6_207 (c_X6_isDigit x (zMW x a (upd (upd q 2 (nI k)) 3 (nI j)) g nu f) (g 6) n j) ⟨Nat.le_of_ble_eq_true rfl, Nat.le_of_ble_eq_true rfl⟩ ⟨Nat.zero_le _, Nat.zero_le _⟩ hw rfl rfl (Nat.le_of_ble_eq_true rfl) dX6_token_116 (fun H locs hw => ?_)
                  have hw : zHw x A s.heap (zMW x a (upd (upd q 2 (nI k)) 3 (nI j)) g nu f) H locs := hw
                  refine lv_if_eq (tgt := 135) hx hb dX6_token_119 (by decide) (fun c119 => ?_) (fun c119 => ?_)
                  · have c119 := zb_0.mp c119
                    exact zFG.vret hx hb hr hlocks hQ hw rfl dX6_token_135 ⟨rfl, zMW6 rfl hn1 (congrArg nI hs.symm) (congrArg nI (by rw [hs, ← e2, zEj_xD c87 c105 c119])) rfl rfl⟩
                  · have c119 := zb_n0.mp c119
                    refine lv_aload_n hx hb dX6_token_122 rfl (lv_at hl 0 rfl) ?_
                    refine lv_dup hx hb dX6_token_123 rfl ?_
                    refine gfX6_195 hx hb hown hts hK hw 0 rfl rfl dX6_token_124 ?_
                    refine W.eq (g2 := F0 m 127 ls [.int (nI j), .ref (a 0)]) (by rfl) ?_
                    refine lv_iconst (v := 1) hx hb dX6_token_127 (by decide) ?_
                    refine lv_iadd hx hb dX6_token_128 ?_
                    refine pfX6_195 hx hb hown hts hK hw 0 rfl (Nat.le_of_ble_eq_true rfl) dX6_token_129 (fun H locs hw => ?_)
                    have hw : zHw x A s.heap (zMW x a (upd (upd (upd q 2 (nI k)) 3 (nI j)) 3 ((nI j) + 1)) g nu f) H locs := hw
                    refine lv_goto (tgt := 86) hx hb dX6_token_132 (by decide) ?_
                    exact ih86 (j + 1) (by omega) (by omega) (Nat.succ_le_of_lt c119.1) ((zEj_sD c87 c105 c119).trans e2) _ _ _ (hw.re (zMW6 rfl rfl rfl (nI_1 j) rfl rfl)) (lv_sub hl [0, 1, 2] rfl)
              · have c87 := zb_n0.mp c87
                refine lv_aload_n hx hb dX6_token_90 rfl (lv_at hl 0 rfl) ?_
                refine lv_aload_n hx hb dX6_token_91 rfl (lv_at hl 0 rfl) ?_
                refine gfX6_195 hx hb hown hts hK hw 0 rfl rfl dX6_token_92 ?_
                refine W.eq (g2 := F0 m 95 ls [.int (nI j), .ref (a 0)]) (by rfl) ?_
                refine zcVwi (r := zBy (g 6) n j) hx hb hml hown hts hl.1 hK hE hA lkX6_201 (c_X6_byteAt x a (upd (upd q 2 (nI k)) 3 (nI j)) g nu f j n (hn1) hn (by omega)) ⟨Nat.le_of_ble_eq_true rfl, Nat.le_of_ble_eq_true rfl⟩ ⟨Nat.zero_le _, Nat.zero_le _⟩ hw 0 4 rfl rfl rfl rfl (Nat.le_of_ble_eq_true rfl) dX6_token_95 (fun H locs hw => ?_)
                have hw : zHw x A s.heap (zMW x a (upd (upd q 2 (nI k)) 3 (nI j)) g nu f) H locs := hw
                refine zcSwi (r := zb (zLt (g 6) n j)) hx hb hml hown hts hl.1 hK hE hA lkX6_204 (c_X6_isLetter x (zMW x a (upd (upd q 2 (nI k)) 3 (nI j)) g nu f) (g 6) n j) ⟨Nat.le_of_ble_eq_true rfl, Nat.le_of_ble_eq_true rfl⟩ ⟨Nat.zero_le _, Nat.zero_le _⟩ hw rfl rfl (Nat.le_of_ble_eq_true rfl) dX6_token_98 (fun H locs hw => ?_)
                have hw : zHw x A s.heap (zMW x a (upd (upd q 2 (nI k)) 3 (nI j)) g nu f) H locs := hw
                refine lv_if_ne (tgt := 122) hx hb dX6_token_101 (by decide) (fun c101 => ?_) (fun c101 => ?_)
                · have c101 := zb_n0.mp c101
                  refine lv_aload_n hx hb dX6_token_122 rfl (lv_at hl 0 rfl) ?_
                  refine lv_dup hx hb dX6_token_123 rfl ?_
                  refine gfX6_195 hx hb hown hts hK hw 0 rfl rfl dX6_token_124 ?_
                  refine W.eq (g2 := F0 m 127 ls [.int (nI j), .ref (a 0)]) (by rfl) ?_
                  refine lv_iconst (v := 1) hx hb dX6_token_127 (by decide) ?_
                  refine lv_iadd hx hb dX6_token_128 ?_
                  refine pfX6_195 hx hb hown hts hK hw 0 rfl (Nat.le_of_ble_eq_true rfl) dX6_token_129 (fun H locs hw => ?_)
                  have hw : zHw x A s.heap (zMW x a (upd (upd (upd q 2 (nI k)) 3 (nI j)) 3 ((nI j) + 1)) g nu f) H locs := hw
                  refine lv_goto (tgt := 86) hx hb dX6_token_132 (by decide) ?_
                  exact ih86 (j + 1) (by omega) (by omega) (Nat.succ_le_of_lt c101.1) ((zEj_sL c87 c101).trans e2) _ _ _ (hw.re (zMW6 rfl rfl rfl (nI_1 j) rfl rfl)) (lv_sub hl [0, 1, 2] rfl)
                · have c101 := zb_0.mp c101
                  refine lv_iload_n hx hb dX6_token_104 rfl (lv_at hl 2 rfl) ?_
                  refine lv_if_eq (tgt := 135) hx hb dX6_token_105 (by decide) (fun c105 => ?_) (fun c105 => absurd (zb_0.mpr (zLD c87)) c105)
                  exact zFG.vret hx hb hr hlocks hQ hw rfl dX6_token_135 ⟨rfl, zMW6 rfl hn1 (congrArg nI hs.symm) (congrArg nI (by rw [hs, ← e2, zEj_xL c87 c101])) rfl rfl⟩
          exact loop86 (_ + 1) (k + 1) (Nat.lt_succ_self _) (by omega) (by omega) (zEj_0 hkn) _ _ _ hw (lv_sub hl [2, 1, 0] rfl)
      · have hs := zBy_32.mp c18
        refine lv_aload_n hx hb dX6_token_21 rfl (lv_at hl 0 rfl) ?_
        refine lv_dup hx hb dX6_token_22 rfl ?_
        refine gfX6_198 hx hb hown hts hK hw 0 rfl rfl dX6_token_23 ?_
        refine W.eq (g2 := F0 m 26 ls [.int (nI k), .ref (a 0)]) (by rfl) ?_
        refine lv_iconst (v := 1) hx hb dX6_token_26 (by decide) ?_
        refine lv_iadd hx hb dX6_token_27 ?_
        refine pfX6_198 hx hb hown hts hK hw 0 rfl (Nat.le_of_ble_eq_true rfl) dX6_token_28 (fun H locs hw => ?_)
        have hw : zHw x A s.heap (zMW x a (upd (upd q 2 (nI k)) 2 ((nI k) + 1)) g nu f) H locs := hw
        refine lv_goto (tgt := 8) hx hb dX6_token_31 (by decide) ?_
        exact ih8 (k + 1) (by omega) (by omega) ((zRu_t hs.1 hs.2).trans e1) _ _ _ (hw.re (zMW6 rfl rfl (nI_1 k) rfl rfl rfl)) (lv_sub hl [0] rfl)
  exact loop8 (_ + 1) p0 (Nat.lt_succ_self _) hpn rfl _ _ _ hw (lv_sub hl [0] rfl)

set_option maxHeartbeats 4000000 in
set_option maxRecDepth 100000 in
theorem c_X6_must_t (x : zX) (a : Nat → Nat) (g : zT) (nu : Nat → Nat → Int64) (f : Nat → Int32) (n y : Nat) (q0 v : Int32) (hn : n ≤ 120) (hy : y ≤ n) : zFF x mX6_must 3 [.ref (a 0), .int 1] (zMW x a (zTq (g 6) n y q0 v 0) g nu f) none (zMW x a (zTq (g 6) n (zNx (g 6) n y) q0 v 0) g nu f) := by
  refine zFG.start RX6 cX6_must 2 none rfl rfl (by decide +kernel) (Nat.le_of_ble_eq_true rfl) ?_
  intro p e s m ar below meth c ls A Q hx hb hr hml hown hts hlocks hK hE hA hQ hl hw
  have hl : lv_has ls 2 [(0, .ref (a 0)), (1, .int 1)] := hl
  have hw : zHw x A s.heap (zMW x a (zTq (g 6) n y q0 v 0) g nu f) s.heap [] := hw
  refine lv_aload_n hx hb dX6_must_0 rfl (lv_at hl 0 rfl) ?_
  refine lv_aload_n hx hb dX6_must_1 rfl (lv_at hl 0 rfl) ?_
  refine gfX6_210 hx hb hown hts hK hw 0 rfl rfl dX6_must_2 ?_
  refine W.eq (g2 := F0 m 5 ls [.int 0, .ref (a 0)]) (by rfl) ?_
  refine lv_if_ne (tgt := 12) hx hb dX6_must_5 (by decide) (fun c5 => absurd c5 (by decide)) (fun c5 => ?_)
  refine lv_iload_n hx hb dX6_must_8 rfl (lv_at hl 1 rfl) ?_
  refine lv_if_ne (tgt := 16) hx hb dX6_must_9 (by decide) (fun c9 => ?_) (fun c9 => absurd c9 (by decide))
  refine lv_iconst (v := 0) hx hb dX6_must_16 (by decide) ?_
  refine pfX6_210 hx hb hown hts hK hw 0 rfl (Nat.le_of_ble_eq_true rfl) ⟨by decide, by decide⟩ dX6_must_17 (fun H locs hw => ?_)
  have hw : zHw x A s.heap (zMW x a (upd (zTq (g 6) n y q0 v 0) 5 0) g nu f) H locs := hw
  refine lv_aload_n hx hb dX6_must_20 rfl (lv_at hl 0 rfl) ?_
  refine gfX6_210 hx hb hown hts hK hw 0 rfl rfl dX6_must_21 ?_
  refine W.eq (g2 := F0 m 24 ls [.int 0]) (by rfl) ?_
  refine lv_if_ne (tgt := 31) hx hb dX6_must_24 (by decide) (fun c24 => absurd c24 (by decide)) (fun c24 => ?_)
  refine lv_aload_n hx hb dX6_must_27 rfl (lv_at hl 0 rfl) ?_
  refine zcVwv hx hb hml hown hts hl.1 hK hE hA lkX6_214 (c_X6_token x a (upd (zTq (g 6) n y q0 v 0) 5 0) g nu f (zEn (g 6) n y) n rfl rfl (zEn_le hy) hn) ⟨Nat.le_of_ble_eq_true rfl, Nat.le_of_ble_eq_true rfl⟩ ⟨Nat.zero_le _, Nat.zero_le _⟩ hw 0 4 rfl rfl rfl rfl (Nat.le_of_ble_eq_true rfl) dX6_must_28 (fun H locs hw => ?_)
  have hw : zHw x A s.heap (zMW x a (zTq (g 6) n (zNx (g 6) n y) q0 v 0) g nu f) H locs := (hw.re (zMW6 rfl rfl rfl rfl rfl rfl))
  exact zFG.vret hx hb hr hlocks hQ hw rfl dX6_must_31 ⟨rfl, rfl⟩

set_option maxHeartbeats 4000000 in
set_option maxRecDepth 100000 in
theorem c_X6_must_f (x : zX) (a : Nat → Nat) (g : zT) (nu : Nat → Nat → Int64) (f : Nat → Int32) (n y : Nat) (q0 v : Int32) (hn : n ≤ 120) (hy : y ≤ n) : zFF x mX6_must 3 [.ref (a 0), .int 0] (zMW x a (zTq (g 6) n y q0 v 0) g nu f) none (zMW x a (zTq (g 6) n y q0 v 1) g nu f) := by
  refine zFG.start RX6 cX6_must 2 none rfl rfl (by decide +kernel) (Nat.le_of_ble_eq_true rfl) ?_
  intro p e s m ar below meth c ls A Q hx hb hr hml hown hts hlocks hK hE hA hQ hl hw
  have hl : lv_has ls 2 [(0, .ref (a 0)), (1, .int 0)] := hl
  have hw : zHw x A s.heap (zMW x a (zTq (g 6) n y q0 v 0) g nu f) s.heap [] := hw
  refine lv_aload_n hx hb dX6_must_0 rfl (lv_at hl 0 rfl) ?_
  refine lv_aload_n hx hb dX6_must_1 rfl (lv_at hl 0 rfl) ?_
  refine gfX6_210 hx hb hown hts hK hw 0 rfl rfl dX6_must_2 ?_
  refine W.eq (g2 := F0 m 5 ls [.int 0, .ref (a 0)]) (by rfl) ?_
  refine lv_if_ne (tgt := 12) hx hb dX6_must_5 (by decide) (fun c5 => absurd c5 (by decide)) (fun c5 => ?_)
  refine lv_iload_n hx hb dX6_must_8 rfl (lv_at hl 1 rfl) ?_
  refine lv_if_ne (tgt := 16) hx hb dX6_must_9 (by decide) (fun c9 => absurd c9 (by decide)) (fun c9 => ?_)
  refine lv_iconst (v := 1) hx hb dX6_must_12 (by decide) ?_
  refine lv_goto (tgt := 17) hx hb dX6_must_13 (by decide) ?_
  refine pfX6_210 hx hb hown hts hK hw 0 rfl (Nat.le_of_ble_eq_true rfl) ⟨by decide, by decide⟩ dX6_must_17 (fun H locs hw => ?_)
  have hw : zHw x A s.heap (zMW x a (upd (zTq (g 6) n y q0 v 0) 5 1) g nu f) H locs := hw
  refine lv_aload_n hx hb dX6_must_20 rfl (lv_at hl 0 rfl) ?_
  refine gfX6_210 hx hb hown hts hK hw 0 rfl rfl dX6_must_21 ?_
  refine W.eq (g2 := F0 m 24 ls [.int 1]) (by rfl) ?_
  refine lv_if_ne (tgt := 31) hx hb dX6_must_24 (by decide) (fun c24 => ?_) (fun c24 => absurd c24 (by decide))
  exact zFG.vret hx hb hr hlocks hQ hw rfl dX6_must_31 ⟨rfl, zMW6 rfl rfl rfl rfl rfl rfl⟩

set_option maxHeartbeats 4000000 in
set_option maxRecDepth 100000 in
theorem c_X6_word_0 (x : zX) (a : Nat → Nat) (g : zT) (nu : Nat → Nat → Int64) (f : Nat → Int32) (n y : Nat) (q0 v : Int32) (hn : n ≤ 120) (hy : y ≤ n) : zFF x mX6_word 2 [.ref (a 0)] (zMW x a (zTq (g 6) n y q0 v 0) g nu f) (some (.long (lN (zWv (g 6) n y)))) (zMW x a (zTq (g 6) n y q0 v 0) g nu f) := by
  have hye := zEn_ge (g 6) n y
  have hen := zEn_le (B := g 6) hy
  refine zFG.start RX6 cX6_word 4 (some .long) rfl rfl (by decide +kernel) (Nat.le_of_ble_eq_true rfl) ?_
  intro p e s m ar below meth c ls A Q hx hb hr hml hown hts hlocks hK hE hA hQ hl hw
  have hl : lv_has ls 4 [(0, .ref (a 0))] := hl
  have hw : zHw x A s.heap (zMW x a (zTq (g 6) n y q0 v 0) g nu f) s.heap [] := hw
  refine lv_lconst (v := 0) hx hb dX6_word_0 (by decide) ?_
  refine lv_lstore_n (lv' := [(1, .long 0), (0, .ref (a 0))]) hx hb dX6_word_1 rfl hl (by decide) rfl (fun ls hl => ?_)
  refine lv_aload_n hx hb dX6_word_2 rfl (lv_at hl 1 rfl) ?_
  refine gfX6_198 hx hb hown hts hK hw 0 rfl rfl dX6_word_3 ?_
  refine W.eq (g2 := F0 m 6 ls [.int (nI y)]) (by rfl) ?_
  refine lv_istore_n (lv' := [(3, .int (nI y)), (1, .long 0), (0, .ref (a 0))]) hx hb dX6_word_6 rfl hl (by decide) rfl (fun ls hl => ?_)
  have loop7 : ∀ (dd : Nat) (k : Nat) (z : Int64), zEn (g 6) n y - k < dd → (hyk : y ≤ k) → (hke : k ≤ zEn (g 6) n y) → (hz : zLt (g 6) n y → z = lN (zWd (g 6) y (k - y))) → ∀ (H : Heap) (locs : List Loc) (ls : Array Slot), zHw x A s.heap (zMW x a (zTq (g 6) n y q0 v 0) g nu f) H locs → lv_has ls 4 [(0, .ref (a 0)), (1, .long z), (3, .int (nI k))] → W p x.1 e (zRM 2) s m ar below meth c H locs 0 0 Q (F0 m 7 ls []) := by
    intro dd
    induction dd with
    | zero => intro k z hm; exact absurd hm (Nat.not_lt_zero _)
    | succ dd ih7 =>
      intro k z hm hyk hke hz H locs ls hw hl
      refine lv_iload_n hx hb dX6_word_7 rfl (lv_at hl 2 rfl) ?_
      refine lv_aload_n hx hb dX6_word_8 rfl (lv_at hl 0 rfl) ?_
      refine gfX6_195 hx hb hown hts hK hw 0 rfl rfl dX6_word_9 ?_
      refine W.eq (g2 := F0 m 12 ls [.int (nI (zEn (g 6) n y)), .int (nI k)]) (by rfl) ?_
      refine lv_icmp_ge (tgt := 50) hx hb dX6_word_12 (by decide) (fun c12 => ?_) (fun c12 => ?_)
      · have hke2 : k = zEn (g 6) n y := by
          have := Nat.le_of_not_lt (fun h => absurd c12 (nI_ge h (by omega)))
          omega
        refine lv_aload_n hx hb dX6_word_50 rfl (lv_at hl 0 rfl) ?_
        refine gfX6_210 hx hb hown hts hK hw 0 rfl rfl dX6_word_51 ?_
        refine W.eq (g2 := F0 m 54 ls [.int 0]) (by rfl) ?_
        refine lv_if_ne (tgt := 71) hx hb dX6_word_54 (by decide) (fun c54 => absurd c54 (by decide)) (fun c54 => ?_)
        refine lv_aload_n hx hb dX6_word_57 rfl (lv_at hl 0 rfl) ?_
        refine lv_aload_n hx hb dX6_word_58 rfl (lv_at hl 0 rfl) ?_
        refine gfX6_198 hx hb hown hts hK hw 0 rfl rfl dX6_word_59 ?_
        refine W.eq (g2 := F0 m 62 ls [.int (nI y), .ref (a 0)]) (by rfl) ?_
        refine zcVwi (r := zBy (g 6) n y) hx hb hml hown hts hl.1 hK hE hA lkX6_201 (c_X6_byteAt x a (zTq (g 6) n y q0 v 0) g nu f y n (rfl) hn (by omega)) ⟨Nat.le_of_ble_eq_true rfl, Nat.le_of_ble_eq_true rfl⟩ ⟨Nat.zero_le _, Nat.zero_le _⟩ hw 0 4 rfl rfl rfl rfl (Nat.le_of_ble_eq_true rfl) dX6_word_62 (fun H locs hw => ?_)
        have hw : zHw x A s.heap (zMW x a (zTq (g 6) n y q0 v 0) g nu f) H locs := hw
        refine zcSwi (r := zb (zLt (g 6) n y)) hx hb hml hown hts hl.1 hK hE hA lkX6_204 (c_X6_isLetter x (zMW x a (zTq (g 6) n y q0 v 0) g nu f) (g 6) n y) ⟨Nat.le_of_ble_eq_true rfl, Nat.le_of_ble_eq_true rfl⟩ ⟨Nat.zero_le _, Nat.zero_le _⟩ hw rfl rfl (Nat.le_of_ble_eq_true rfl) dX6_word_65 (fun H locs hw => ?_)
        have hw : zHw x A s.heap (zMW x a (zTq (g 6) n y q0 v 0) g nu f) H locs := hw
        refine lv_if_ne (tgt := 75) hx hb dX6_word_68 (by decide) (fun c68 => ?_) (fun c68 => ?_)
        · have c68 := zb_n0.mp c68
          refine lv_lload_n hx hb dX6_word_75 rfl (lv_at hl 1 rfl) ?_
          exact zFG.lret hx hb hr hlocks hQ hw rfl dX6_word_76 ⟨zsl (by unfold zWv; first | (rw [if_neg c68]; rfl) | (rw [if_pos c68, ← hke2]; exact hz c68)), rfl⟩
        · have c68 := zb_0.mp c68
          refine lv_lconst (v := 0) hx hb dX6_word_71 (by decide) ?_
          refine lv_goto (tgt := 76) hx hb dX6_word_72 (by decide) ?_
          exact zFG.lret hx hb hr hlocks hQ hw rfl dX6_word_76 ⟨zsl (by unfold zWv; first | (rw [if_neg c68]; rfl) | (rw [if_pos c68, ← hke2]; exact hz c68)), rfl⟩
      · have hkt : k < zEn (g 6) n y := Nat.lt_of_not_le (fun h => c12 (nI_le h (by omega)))
        have hlet : zLt (g 6) n y → ∀ i, i < k - y + 1 → 97 ≤ g 6 (y + i) ∧ g 6 (y + i) ≤ 122 := fun h i hi => zEn_inL h (by omega)
        have e1 : k + 1 - y = k - y + 1 := by omega
        have e2 : y + (k - y) = k := by omega
        refine lv_lload_n hx hb dX6_word_15 rfl (lv_at hl 1 rfl) ?_
        refine lv_ldc2 (v := 36028797018963967) hx hb hown (hts _ ckX6_217) dX6_word_16 ?_
        refine W.lcmp hx hb dX6_word_19 ?_
        refine lv_if_le (tgt := 27) hx hb dX6_word_20 (by decide) (fun c20 => ?_) (fun c20 => ?_)
        · have c20 := (lg_cmp_le _ _).mp c20
          refine lv_ldc2 (v := 32) hx hb hown (hts _ ckX6_219) dX6_word_27 ?_
          refine lv_lload_n hx hb dX6_word_30 rfl (lv_at hl 1 rfl) ?_
          refine lv_lmul hx hb dX6_word_31 ?_
          refine lv_aload_n hx hb dX6_word_32 rfl (lv_at hl 0 rfl) ?_
          refine gfX6_25 hx hb hown hts hK hw 0 rfl rfl dX6_word_33 ?_
          refine lv_iload_n hx hb dX6_word_36 rfl (lv_at hl 2 rfl) ?_
          refine zial hx hb hK hw 6 0 k rfl rfl rfl (by omega) (by decide) dX6_word_37 ?_
          refine lv_bipush (v := 96) hx hb dX6_word_38 (by decide) ?_
          refine lv_isub hx hb dX6_word_40 ?_
          refine lv_i2l hx hb dX6_word_41 rfl ?_
          refine lv_ladd hx hb dX6_word_42 ?_
          have hz2 : zLt (g 6) n y → 32 * z + (g 6 k - 96).toInt64 = lN (zWd (g 6) y (k + 1 - y)) := fun h => by
            have h1 := hz h
            have h2 := zWd_s1 (hlet h) (by rw [← h1]; exact c20)
            rw [e2, ← h1] at h2
            rw [e1]; exact h2
          refine lv_lstore_n (lv' := [(1, .long ((32 * z) + ((((g 6) k) - 96).toInt64))), (0, .ref (a 0)), (3, .int (nI k))]) hx hb dX6_word_43 rfl hl (by decide) rfl (fun ls hl => ?_)
          refine lv_iinc (v := nI (k + 1)) (lv' := [(3, .int (nI (k + 1))), (1, .long ((32 * z) + ((((g 6) k) - 96).toInt64))), (0, .ref (a 0))]) hx hb dX6_word_44 hl (k := 2) rfl (nI_1 k) (by decide) rfl (fun ls hl => ?_)
          refine lv_goto (tgt := 7) hx hb dX6_word_47 (by decide) ?_
          exact ih7 (k + 1) (32 * z + (g 6 k - 96).toInt64) (by omega) (by omega) (by omega) hz2 _ _ _ hw (lv_sub hl [2, 1, 0] rfl)
        · have c20 := fun h => c20 ((lg_cmp_le _ _).mpr h)
          refine lv_lload_n hx hb dX6_word_23 rfl (lv_at hl 1 rfl) ?_
          refine lv_goto (tgt := 43) hx hb dX6_word_24 (by decide) ?_
          have hz2 : zLt (g 6) n y → z = lN (zWd (g 6) y (k + 1 - y)) := fun h => by
            have h1 := hz h
            rw [e1]
            rw [h1] at c20 ⊢
            exact zWd_s2 (hlet h) c20
          refine lv_lstore_n (lv' := [(1, .long z), (0, .ref (a 0)), (3, .int (nI k))]) hx hb dX6_word_43 rfl hl (by decide) rfl (fun ls hl => ?_)
          refine lv_iinc (v := nI (k + 1)) (lv' := [(3, .int (nI (k + 1))), (1, .long z), (0, .ref (a 0))]) hx hb dX6_word_44 hl (k := 2) rfl (nI_1 k) (by decide) rfl (fun ls hl => ?_)
          refine lv_goto (tgt := 7) hx hb dX6_word_47 (by decide) ?_
          exact ih7 (k + 1) z (by omega) (by omega) (by omega) hz2 _ _ _ hw (lv_sub hl [2, 1, 0] rfl)
  exact loop7 (_ + 1) y 0 (Nat.lt_succ_self _) (Nat.le_refl _) hye (fun _ => by rw [Nat.sub_self]; rfl) _ _ _ hw (lv_sub hl [2, 1, 0] rfl)

set_option maxHeartbeats 4000000 in
set_option maxRecDepth 100000 in
theorem c_X6_word_1 (x : zX) (a : Nat → Nat) (g : zT) (nu : Nat → Nat → Int64) (f : Nat → Int32) (n y : Nat) (q0 v : Int32) (hn : n ≤ 120) (hy : y ≤ n) : zFF x mX6_word 2 [.ref (a 0)] (zMW x a (zTq (g 6) n y q0 v 1) g nu f) (some (.long 0)) (zMW x a (zTq (g 6) n y q0 v 1) g nu f) := by
  have hye := zEn_ge (g 6) n y
  have hen := zEn_le (B := g 6) hy
  refine zFG.start RX6 cX6_word 4 (some .long) rfl rfl (by decide +kernel) (Nat.le_of_ble_eq_true rfl) ?_
  intro p e s m ar below meth c ls A Q hx hb hr hml hown hts hlocks hK hE hA hQ hl hw
  have hl : lv_has ls 4 [(0, .ref (a 0))] := hl
  have hw : zHw x A s.heap (zMW x a (zTq (g 6) n y q0 v 1) g nu f) s.heap [] := hw
  refine lv_lconst (v := 0) hx hb dX6_word_0 (by decide) ?_
  refine lv_lstore_n (lv' := [(1, .long 0), (0, .ref (a 0))]) hx hb dX6_word_1 rfl hl (by decide) rfl (fun ls hl => ?_)
  refine lv_aload_n hx hb dX6_word_2 rfl (lv_at hl 1 rfl) ?_
  refine gfX6_198 hx hb hown hts hK hw 0 rfl rfl dX6_word_3 ?_
  refine W.eq (g2 := F0 m 6 ls [.int (nI y)]) (by rfl) ?_
  refine lv_istore_n (lv' := [(3, .int (nI y)), (1, .long 0), (0, .ref (a 0))]) hx hb dX6_word_6 rfl hl (by decide) rfl (fun ls hl => ?_)
  have loop7 : ∀ (dd : Nat) (k : Nat) (z : Int64), zEn (g 6) n y - k < dd → (hyk : y ≤ k) → (hke : k ≤ zEn (g 6) n y) → (hz : zLt (g 6) n y → z = lN (zWd (g 6) y (k - y))) → ∀ (H : Heap) (locs : List Loc) (ls : Array Slot), zHw x A s.heap (zMW x a (zTq (g 6) n y q0 v 1) g nu f) H locs → lv_has ls 4 [(0, .ref (a 0)), (1, .long z), (3, .int (nI k))] → W p x.1 e (zRM 2) s m ar below meth c H locs 0 0 Q (F0 m 7 ls []) := by
    intro dd
    induction dd with
    | zero => intro k z hm; exact absurd hm (Nat.not_lt_zero _)
    | succ dd ih7 =>
      intro k z hm hyk hke hz H locs ls hw hl
      refine lv_iload_n hx hb dX6_word_7 rfl (lv_at hl 2 rfl) ?_
      refine lv_aload_n hx hb dX6_word_8 rfl (lv_at hl 0 rfl) ?_
      refine gfX6_195 hx hb hown hts hK hw 0 rfl rfl dX6_word_9 ?_
      refine W.eq (g2 := F0 m 12 ls [.int (nI (zEn (g 6) n y)), .int (nI k)]) (by rfl) ?_
      refine lv_icmp_ge (tgt := 50) hx hb dX6_word_12 (by decide) (fun c12 => ?_) (fun c12 => ?_)
      · have hke2 : k = zEn (g 6) n y := by
          have := Nat.le_of_not_lt (fun h => absurd c12 (nI_ge h (by omega)))
          omega
        refine lv_aload_n hx hb dX6_word_50 rfl (lv_at hl 0 rfl) ?_
        refine gfX6_210 hx hb hown hts hK hw 0 rfl rfl dX6_word_51 ?_
        refine W.eq (g2 := F0 m 54 ls [.int 1]) (by rfl) ?_
        refine lv_if_ne (tgt := 71) hx hb dX6_word_54 (by decide) (fun c54 => ?_) (fun c54 => absurd c54 (by decide))
        refine lv_lconst (v := 0) hx hb dX6_word_71 (by decide) ?_
        refine lv_goto (tgt := 76) hx hb dX6_word_72 (by decide) ?_
        exact zFG.lret hx hb hr hlocks hQ hw rfl dX6_word_76 ⟨rfl, rfl⟩
      · have hkt : k < zEn (g 6) n y := Nat.lt_of_not_le (fun h => c12 (nI_le h (by omega)))
        have hlet : zLt (g 6) n y → ∀ i, i < k - y + 1 → 97 ≤ g 6 (y + i) ∧ g 6 (y + i) ≤ 122 := fun h i hi => zEn_inL h (by omega)
        have e1 : k + 1 - y = k - y + 1 := by omega
        have e2 : y + (k - y) = k := by omega
        refine lv_lload_n hx hb dX6_word_15 rfl (lv_at hl 1 rfl) ?_
        refine lv_ldc2 (v := 36028797018963967) hx hb hown (hts _ ckX6_217) dX6_word_16 ?_
        refine W.lcmp hx hb dX6_word_19 ?_
        refine lv_if_le (tgt := 27) hx hb dX6_word_20 (by decide) (fun c20 => ?_) (fun c20 => ?_)
        · have c20 := (lg_cmp_le _ _).mp c20
          refine lv_ldc2 (v := 32) hx hb hown (hts _ ckX6_219) dX6_word_27 ?_
          refine lv_lload_n hx hb dX6_word_30 rfl (lv_at hl 1 rfl) ?_
          refine lv_lmul hx hb dX6_word_31 ?_
          refine lv_aload_n hx hb dX6_word_32 rfl (lv_at hl 0 rfl) ?_
          refine gfX6_25 hx hb hown hts hK hw 0 rfl rfl dX6_word_33 ?_
          refine lv_iload_n hx hb dX6_word_36 rfl (lv_at hl 2 rfl) ?_
          refine zial hx hb hK hw 6 0 k rfl rfl rfl (by omega) (by decide) dX6_word_37 ?_
          refine lv_bipush (v := 96) hx hb dX6_word_38 (by decide) ?_
          refine lv_isub hx hb dX6_word_40 ?_
          refine lv_i2l hx hb dX6_word_41 rfl ?_
          refine lv_ladd hx hb dX6_word_42 ?_
          have hz2 : zLt (g 6) n y → 32 * z + (g 6 k - 96).toInt64 = lN (zWd (g 6) y (k + 1 - y)) := fun h => by
            have h1 := hz h
            have h2 := zWd_s1 (hlet h) (by rw [← h1]; exact c20)
            rw [e2, ← h1] at h2
            rw [e1]; exact h2
          refine lv_lstore_n (lv' := [(1, .long ((32 * z) + ((((g 6) k) - 96).toInt64))), (0, .ref (a 0)), (3, .int (nI k))]) hx hb dX6_word_43 rfl hl (by decide) rfl (fun ls hl => ?_)
          refine lv_iinc (v := nI (k + 1)) (lv' := [(3, .int (nI (k + 1))), (1, .long ((32 * z) + ((((g 6) k) - 96).toInt64))), (0, .ref (a 0))]) hx hb dX6_word_44 hl (k := 2) rfl (nI_1 k) (by decide) rfl (fun ls hl => ?_)
          refine lv_goto (tgt := 7) hx hb dX6_word_47 (by decide) ?_
          exact ih7 (k + 1) (32 * z + (g 6 k - 96).toInt64) (by omega) (by omega) (by omega) hz2 _ _ _ hw (lv_sub hl [2, 1, 0] rfl)
        · have c20 := fun h => c20 ((lg_cmp_le _ _).mpr h)
          refine lv_lload_n hx hb dX6_word_23 rfl (lv_at hl 1 rfl) ?_
          refine lv_goto (tgt := 43) hx hb dX6_word_24 (by decide) ?_
          have hz2 : zLt (g 6) n y → z = lN (zWd (g 6) y (k + 1 - y)) := fun h => by
            have h1 := hz h
            rw [e1]
            rw [h1] at c20 ⊢
            exact zWd_s2 (hlet h) c20
          refine lv_lstore_n (lv' := [(1, .long z), (0, .ref (a 0)), (3, .int (nI k))]) hx hb dX6_word_43 rfl hl (by decide) rfl (fun ls hl => ?_)
          refine lv_iinc (v := nI (k + 1)) (lv' := [(3, .int (nI (k + 1))), (1, .long z), (0, .ref (a 0))]) hx hb dX6_word_44 hl (k := 2) rfl (nI_1 k) (by decide) rfl (fun ls hl => ?_)
          refine lv_goto (tgt := 7) hx hb dX6_word_47 (by decide) ?_
          exact ih7 (k + 1) z (by omega) (by omega) (by omega) hz2 _ _ _ hw (lv_sub hl [2, 1, 0] rfl)
  exact loop7 (_ + 1) y 0 (Nat.lt_succ_self _) (Nat.le_refl _) hye (fun _ => by rw [Nat.sub_self]; rfl) _ _ _ hw (lv_sub hl [2, 1, 0] rfl)

set_option maxHeartbeats 4000000 in
set_option maxRecDepth 100000 in
theorem c_X6_number_w (x : zX) (a : Nat → Nat) (g : zT) (nu : Nat → Nat → Int64) (f : Nat → Int32) (n y : Nat) (q0 v : Int32) (hn : n ≤ 120) (hy : y ≤ n) (lo hi : Int32) : zFF x mX6_number 4 [.ref (a 0), .int lo, .int hi] (zMW x a (zTq (g 6) n y q0 v 1) g nu f) none (zMW x a (zTq (g 6) n y q0 v 1) g nu f) := by
  refine zFG.start RX6 cX6_number 6 none rfl rfl (by decide +kernel) (Nat.le_of_ble_eq_true rfl) ?_
  intro p e s m ar below meth c ls A Q hx hb hr hml hown hts hlocks hK hE hA hQ hl hw
  have hl : lv_has ls 6 [(0, .ref (a 0)), (1, .int lo), (2, .int hi)] := hl
  have hw : zHw x A s.heap (zMW x a (zTq (g 6) n y q0 v 1) g nu f) s.heap [] := hw
  refine lv_aload_n hx hb dX6_number_0 rfl (lv_at hl 0 rfl) ?_
  refine gfX6_210 hx hb hown hts hK hw 0 rfl rfl dX6_number_1 ?_
  refine W.eq (g2 := F0 m 4 ls [.int 1]) (by rfl) ?_
  refine lv_if_eq (tgt := 8) hx hb dX6_number_4 (by decide) (fun c4 => absurd c4 (by decide)) (fun c4 => ?_)
  exact zFG.vret hx hb hr hlocks hQ hw rfl dX6_number_7 ⟨rfl, rfl⟩

set_option maxHeartbeats 4000000 in
set_option maxRecDepth 100000 in
theorem c_X6_number (x : zX) (a : Nat → Nat) (g : zT) (nu : Nat → Nat → Int64) (f : Nat → Int32) (n y : Nat) (q0 v : Int32) (hn : n ≤ 120) (hy : y ≤ n) (most : Nat) (hmo : most ≤ 9999) : zFG x mX6_number 4 [.ref (a 0), .int 0, .int (nI most)] (zMW x a (zTq (g 6) n y q0 v 0) g nu f) (fun v' u' => v' = none ∧ ∃ v2 : Int32, u' = (match zNu (g 6) n y most with | some z => zMW x a (zTq (g 6) n (zNx (g 6) n y) q0 (nI z) 0) g nu f | none => zMW x a (zTq (g 6) n y q0 v2 1) g nu f)) := by
  have hye := zEn_ge (g 6) n y
  have hen := zEn_le (B := g 6) hy
  refine zFG.start RX6 cX6_number 6 none rfl rfl (by decide +kernel) (Nat.le_of_ble_eq_true rfl) ?_
  intro p e s m ar below meth c ls A Q hx hb hr hml hown hts hlocks hK hE hA hQ hl hw
  have hl : lv_has ls 6 [(0, .ref (a 0)), (1, .int 0), (2, .int (nI most))] := hl
  have hw : zHw x A s.heap (zMW x a (zTq (g 6) n y q0 v 0) g nu f) s.heap [] := hw
  refine lv_aload_n hx hb dX6_number_0 rfl (lv_at hl 0 rfl) ?_
  refine gfX6_210 hx hb hown hts hK hw 0 rfl rfl dX6_number_1 ?_
  refine W.eq (g2 := F0 m 4 ls [.int 0]) (by rfl) ?_
  refine lv_if_eq (tgt := 8) hx hb dX6_number_4 (by decide) (fun c4 => ?_) (fun c4 => absurd (by decide) c4)
  rcases Decidable.em (zDg (g 6) n y) with hd | hd
  · refine lv_aload_n hx hb dX6_number_8 rfl (lv_at hl 0 rfl) ?_
    refine lv_aload_n hx hb dX6_number_9 rfl (lv_at hl 0 rfl) ?_
    refine gfX6_198 hx hb hown hts hK hw 0 rfl rfl dX6_number_10 ?_
    refine W.eq (g2 := F0 m 13 ls [.int (nI y), .ref (a 0)]) (by rfl) ?_
    refine zcVwi (r := zBy (g 6) n y) hx hb hml hown hts hl.1 hK hE hA lkX6_201 (c_X6_byteAt x a (zTq (g 6) n y q0 v 0) g nu f y n (rfl) hn (by omega)) ⟨Nat.le_of_ble_eq_true rfl, Nat.le_of_ble_eq_true rfl⟩ ⟨Nat.zero_le _, Nat.zero_le _⟩ hw 0 4 rfl rfl rfl rfl (Nat.le_of_ble_eq_true rfl) dX6_number_13 (fun H locs hw => ?_)
    have hw : zHw x A s.heap (zMW x a (zTq (g 6) n y q0 v 0) g nu f) H locs := hw
    refine zcSwi (r := zb (zDg (g 6) n y)) hx hb hml hown hts hl.1 hK hE hA lkX6_207 (c_X6_isDigit x (zMW x a (zTq (g 6) n y q0 v 0) g nu f) (g 6) n y) ⟨Nat.le_of_ble_eq_true rfl, Nat.le_of_ble_eq_true rfl⟩ ⟨Nat.zero_le _, Nat.zero_le _⟩ hw rfl rfl (Nat.le_of_ble_eq_true rfl) dX6_number_16 (fun H locs hw => ?_)
    have hw : zHw x A s.heap (zMW x a (zTq (g 6) n y q0 v 0) g nu f) H locs := hw
    refine W.eq (g2 := F0 m 19 ls [.int 1]) (by rw [zb_t hd]) ?_
    refine lv_istore_n (lv' := [(3, .int 1), (0, .ref (a 0)), (1, .int 0), (2, .int (nI most))]) hx hb dX6_number_19 rfl hl (by decide) rfl (fun ls hl => ?_)
    refine lv_iconst (v := 0) hx hb dX6_number_20 (by decide) ?_
    refine lv_istore (lv' := [(4, .int 0), (3, .int 1), (0, .ref (a 0)), (1, .int 0), (2, .int (nI most))]) hx hb dX6_number_21 hl (by decide) rfl (fun ls hl => ?_)
    refine lv_aload_n hx hb dX6_number_23 rfl (lv_at hl 2 rfl) ?_
    refine gfX6_198 hx hb hown hts hK hw 0 rfl rfl dX6_number_24 ?_
    refine W.eq (g2 := F0 m 27 ls [.int (nI y)]) (by rfl) ?_
    have hl : lv_has ls 6 [(4, .int (nI (zVm (g 6) y (y - y)))), (3, .int 1), (0, .ref (a 0)), (1, .int 0), (2, .int (nI most))] := by
      have e0 : nI (zVm (g 6) y (y - y)) = 0 := by rw [Nat.sub_self]; rfl
      rw [e0]; exact hl
    refine lv_istore (lv' := [(5, .int (nI y)), (4, .int (nI (zVm (g 6) y (y - y)))), (3, .int 1), (0, .ref (a 0)), (1, .int 0), (2, .int (nI most))]) hx hb dX6_number_27 hl (by decide) rfl (fun ls hl => ?_)
    have loop29 : ∀ (dd : Nat) (k : Nat), zEn (g 6) n y - k < dd → (hyk : y ≤ k) → (hke : k ≤ zEn (g 6) n y) → ∀ (H : Heap) (locs : List Loc) (ls : Array Slot), zHw x A s.heap (zMW x a (zTq (g 6) n y q0 v 0) g nu f) H locs → lv_has ls 6 [(0, .ref (a 0)), (1, .int 0), (2, .int (nI most)), (3, .int 1), (4, .int (nI (zVm (g 6) y (k - y)))), (5, .int (nI k))] → W p x.1 e (zRM 4) s m ar below meth c H locs 0 0 Q (F0 m 29 ls []) := by
      intro dd
      induction dd with
      | zero => intro k hm; exact absurd hm (Nat.not_lt_zero _)
      | succ dd ih29 =>
        intro k hm hyk hke H locs ls hw hl
        refine lv_iload hx hb dX6_number_29 (lv_at hl 5 rfl) ?_
        refine lv_aload_n hx hb dX6_number_31 rfl (lv_at hl 0 rfl) ?_
        refine gfX6_195 hx hb hown hts hK hw 0 rfl rfl dX6_number_32 ?_
        refine W.eq (g2 := F0 m 35 ls [.int (nI (zEn (g 6) n y)), .int (nI k)]) (by rfl) ?_
        refine lv_icmp_ge (tgt := 79) hx hb dX6_number_35 (by decide) (fun c35 => ?_) (fun c35 => ?_)
        · have hke2 : k = zEn (g 6) n y := by
            have := Nat.le_of_not_lt (fun h => absurd c35 (nI_ge h (by omega)))
            omega
          have hdig : ∀ i, i < k - y → 48 ≤ g 6 (y + i) ∧ g 6 (y + i) ≤ 57 := fun i hi => zEn_inD hd (by omega)
          have hvb := zVm_lt (g 6) y (k - y) (fun i hi => (zdd_ok (hdig i hi)).1)
          refine lv_aload_n hx hb dX6_number_79 rfl (lv_at hl 0 rfl) ?_
          refine lv_iload hx hb dX6_number_80 (lv_at hl 4 rfl) ?_
          refine pfX6_221 hx hb hown hts hK hw 0 rfl (Nat.le_of_ble_eq_true rfl) dX6_number_82 (fun H locs hw => ?_)
          have hw : zHw x A s.heap (zMW x a (upd (zTq (g 6) n y q0 v 0) 4 (nI (zVm (g 6) y (k - y)))) g nu f) H locs := hw
          refine lv_aload_n hx hb dX6_number_85 rfl (lv_at hl 0 rfl) ?_
          refine lv_iload_n hx hb dX6_number_86 rfl (lv_at hl 3 rfl) ?_
          refine lv_if_eq (tgt := 107) hx hb dX6_number_87 (by decide) (fun c87 => absurd c87 (by decide)) (fun c87 => ?_)
          refine lv_iload hx hb dX6_number_90 (lv_at hl 4 rfl) ?_
          refine lv_i2l hx hb dX6_number_92 rfl ?_
          refine lv_iload_n hx hb dX6_number_93 rfl (lv_at hl 1 rfl) ?_
          refine lv_i2l hx hb dX6_number_94 rfl ?_
          refine lv_iload_n hx hb dX6_number_95 rfl (lv_at hl 2 rfl) ?_
          refine lv_i2l hx hb dX6_number_96 rfl ?_
          refine zcSwi (r := zb ((0 : Int32).toInt64 ≤ (nI (zVm (g 6) y (k - y))).toInt64 ∧ (nI (zVm (g 6) y (k - y))).toInt64 ≤ (nI most).toInt64)) hx hb hml hown hts hl.1 hK hE hA lkX6_48 (c_X6_in x (zMW x a (upd (zTq (g 6) n y q0 v 0) 4 (nI (zVm (g 6) y (k - y)))) g nu f) ((nI (zVm (g 6) y (k - y))).toInt64) ((0 : Int32).toInt64) ((nI most).toInt64)) ⟨Nat.le_of_ble_eq_true rfl, Nat.le_of_ble_eq_true rfl⟩ ⟨Nat.zero_le _, Nat.zero_le _⟩ hw rfl rfl (Nat.le_of_ble_eq_true rfl) dX6_number_97 (fun H locs hw => ?_)
          have hw : zHw x A s.heap (zMW x a (upd (zTq (g 6) n y q0 v 0) 4 (nI (zVm (g 6) y (k - y)))) g nu f) H locs := hw
          refine lv_if_eq (tgt := 107) hx hb dX6_number_100 (by decide) (fun c100 => ?_) (fun c100 => ?_)
          · have c100 := zb_0.mp c100
            refine lv_iconst (v := 0) hx hb dX6_number_107 (by decide) ?_
            have hw : zHw x A s.heap (zMW x a (zTq (g 6) n y q0 (nI (zVm (g 6) y (k - y))) 0) g nu f) H locs := hw.re (zMW6 rfl rfl rfl rfl rfl rfl)
            refine zcVwv hx hb hml hown hts hl.1 hK hE hA lkX6_224 (c_X6_must_f x a g nu f n y q0 (nI (zVm (g 6) y (k - y))) hn hy) ⟨Nat.le_of_ble_eq_true rfl, Nat.le_of_ble_eq_true rfl⟩ ⟨Nat.zero_le _, Nat.zero_le _⟩ hw 0 4 rfl rfl rfl rfl (Nat.le_of_ble_eq_true rfl) dX6_number_108 (fun H locs hw => ?_)
            have hw : zHw x A s.heap (zMW x a (zTq (g 6) n y q0 (nI (zVm (g 6) y (k - y))) 1) g nu f) H locs := hw
            exact zFG.vret hx hb hr hlocks hQ hw rfl dX6_number_111 ⟨rfl, nI (zVm (g 6) y (k - y)), by
                have hle : ¬ zVm (g 6) y (k - y) ≤ most := fun h => c100 ⟨(zwle 0 _).mpr (nI_pos' (by omega)), (zwle _ _).mpr (nI_le h (by omega))⟩
                have hne := zVm_gt hle hmo
                rw [hke2] at hne
                rw [show zNu (g 6) n y most = none from if_neg (fun h => hne h.2)]⟩
          · have c100 := zb_n0.mp c100
            refine lv_iconst (v := 1) hx hb dX6_number_103 (by decide) ?_
            refine lv_goto (tgt := 108) hx hb dX6_number_104 (by decide) ?_
            have hw : zHw x A s.heap (zMW x a (zTq (g 6) n y q0 (nI (zVm (g 6) y (k - y))) 0) g nu f) H locs := hw.re (zMW6 rfl rfl rfl rfl rfl rfl)
            refine zcVwv hx hb hml hown hts hl.1 hK hE hA lkX6_224 (c_X6_must_t x a g nu f n y q0 (nI (zVm (g 6) y (k - y))) hn hy) ⟨Nat.le_of_ble_eq_true rfl, Nat.le_of_ble_eq_true rfl⟩ ⟨Nat.zero_le _, Nat.zero_le _⟩ hw 0 4 rfl rfl rfl rfl (Nat.le_of_ble_eq_true rfl) dX6_number_108 (fun H locs hw => ?_)
            have hw : zHw x A s.heap (zMW x a (zTq (g 6) n (zNx (g 6) n y) q0 (nI (zVm (g 6) y (k - y))) 0) g nu f) H locs := hw
            exact zFG.vret hx hb hr hlocks hQ hw rfl dX6_number_111 ⟨rfl, 0, by
                have hle : zVm (g 6) y (k - y) ≤ most := (nI_leI (by omega) (by omega)).mp ((zwle _ _).mp c100.2)
                have hne := zVm_le hle hmo
                rw [hke2] at hle hne ⊢
                rw [show zNu (g 6) n y most = some _ from if_pos ⟨hd, by rw [hne]; exact hle⟩, hne]⟩
        · have hkt : k < zEn (g 6) n y := Nat.lt_of_not_le (fun h => c35 (nI_le h (by omega)))
          have hdig : ∀ i, i < k - y + 1 → 48 ≤ g 6 (y + i) ∧ g 6 (y + i) ≤ 57 := fun i hi => zEn_inD hd (by omega)
          have e1 : k + 1 - y = k - y + 1 := by omega
          have e2 : y + (k - y) = k := by omega
          refine lv_iload_n hx hb dX6_number_38 rfl (lv_at hl 3 rfl) ?_
          refine lv_if_eq (tgt := 79) hx hb dX6_number_39 (by decide) (fun c39 => absurd c39 (by decide)) (fun c39 => ?_)
          refine lv_iload hx hb dX6_number_42 (lv_at hl 4 rfl) ?_
          refine lv_sipush (v := 9999) hx hb dX6_number_44 (by decide) ?_
          refine lv_icmp_le (tgt := 55) hx hb dX6_number_47 (by decide) (fun c47 => ?_) (fun c47 => ?_)
          · refine lv_bipush (v := 10) hx hb dX6_number_55 (by decide) ?_
            refine lv_iload hx hb dX6_number_57 (lv_at hl 4 rfl) ?_
            refine lv_imul hx hb dX6_number_59 ?_
            refine lv_aload_n hx hb dX6_number_60 rfl (lv_at hl 0 rfl) ?_
            refine gfX6_25 hx hb hown hts hK hw 0 rfl rfl dX6_number_61 ?_
            refine lv_iload hx hb dX6_number_64 (lv_at hl 5 rfl) ?_
            refine zial hx hb hK hw 6 0 k rfl rfl rfl (by omega) (by decide) dX6_number_66 ?_
            refine lv_iadd hx hb dX6_number_67 ?_
            refine lv_bipush (v := 48) hx hb dX6_number_68 (by decide) ?_
            refine lv_isub hx hb dX6_number_70 ?_
            have hv2 : ((10 * (nI (zVm (g 6) y (k - y)))) + ((g 6) k)) - 48 = nI (zVm (g 6) y (k + 1 - y)) := by
              have h2 := zVm_s1 hdig c47
              rw [e2] at h2
              rw [e1]
              exact h2
            refine W.eq (g2 := F0 m 71 ls [.int (nI (zVm (g 6) y (k + 1 - y)))]) (by rw [hv2]) ?_
            refine lv_istore (lv' := [(4, .int (nI (zVm (g 6) y (k + 1 - y)))), (0, .ref (a 0)), (1, .int 0), (2, .int (nI most)), (3, .int 1), (5, .int (nI k))]) hx hb dX6_number_71 hl (by decide) rfl (fun ls hl => ?_)
            refine lv_iinc (v := nI (k + 1)) (lv' := [(5, .int (nI (k + 1))), (4, .int (nI (zVm (g 6) y (k + 1 - y)))), (0, .ref (a 0)), (1, .int 0), (2, .int (nI most)), (3, .int 1)]) hx hb dX6_number_73 hl (k := 5) rfl (nI_1 k) (by decide) rfl (fun ls hl => ?_)
            refine lv_goto (tgt := 29) hx hb dX6_number_76 (by decide) ?_
            exact ih29 (k + 1) (by omega) (by omega) (by omega) _ _ _ hw (lv_sub hl [2, 3, 4, 5, 1, 0] rfl)
          · refine lv_iload hx hb dX6_number_50 (lv_at hl 4 rfl) ?_
            refine lv_goto (tgt := 71) hx hb dX6_number_52 (by decide) ?_
            have hv2 : nI (zVm (g 6) y (k - y)) = nI (zVm (g 6) y (k + 1 - y)) := by
              have h2 := zVm_s2 hdig c47
              rw [e1]
              exact h2
            refine W.eq (g2 := F0 m 71 ls [.int (nI (zVm (g 6) y (k + 1 - y)))]) (by rw [hv2]) ?_
            refine lv_istore (lv' := [(4, .int (nI (zVm (g 6) y (k + 1 - y)))), (0, .ref (a 0)), (1, .int 0), (2, .int (nI most)), (3, .int 1), (5, .int (nI k))]) hx hb dX6_number_71 hl (by decide) rfl (fun ls hl => ?_)
            refine lv_iinc (v := nI (k + 1)) (lv' := [(5, .int (nI (k + 1))), (4, .int (nI (zVm (g 6) y (k + 1 - y)))), (0, .ref (a 0)), (1, .int 0), (2, .int (nI most)), (3, .int 1)]) hx hb dX6_number_73 hl (k := 5) rfl (nI_1 k) (by decide) rfl (fun ls hl => ?_)
            refine lv_goto (tgt := 29) hx hb dX6_number_76 (by decide) ?_
            exact ih29 (k + 1) (by omega) (by omega) (by omega) _ _ _ hw (lv_sub hl [2, 3, 4, 5, 1, 0] rfl)
    exact loop29 (_ + 1) y (Nat.lt_succ_self _) (Nat.le_refl _) hye _ _ _ hw (lv_sub hl [3, 4, 5, 2, 1, 0] rfl)
  · refine lv_aload_n hx hb dX6_number_8 rfl (lv_at hl 0 rfl) ?_
    refine lv_aload_n hx hb dX6_number_9 rfl (lv_at hl 0 rfl) ?_
    refine gfX6_198 hx hb hown hts hK hw 0 rfl rfl dX6_number_10 ?_
    refine W.eq (g2 := F0 m 13 ls [.int (nI y), .ref (a 0)]) (by rfl) ?_
    refine zcVwi (r := zBy (g 6) n y) hx hb hml hown hts hl.1 hK hE hA lkX6_201 (c_X6_byteAt x a (zTq (g 6) n y q0 v 0) g nu f y n (rfl) hn (by omega)) ⟨Nat.le_of_ble_eq_true rfl, Nat.le_of_ble_eq_true rfl⟩ ⟨Nat.zero_le _, Nat.zero_le _⟩ hw 0 4 rfl rfl rfl rfl (Nat.le_of_ble_eq_true rfl) dX6_number_13 (fun H locs hw => ?_)
    have hw : zHw x A s.heap (zMW x a (zTq (g 6) n y q0 v 0) g nu f) H locs := hw
    refine zcSwi (r := zb (zDg (g 6) n y)) hx hb hml hown hts hl.1 hK hE hA lkX6_207 (c_X6_isDigit x (zMW x a (zTq (g 6) n y q0 v 0) g nu f) (g 6) n y) ⟨Nat.le_of_ble_eq_true rfl, Nat.le_of_ble_eq_true rfl⟩ ⟨Nat.zero_le _, Nat.zero_le _⟩ hw rfl rfl (Nat.le_of_ble_eq_true rfl) dX6_number_16 (fun H locs hw => ?_)
    have hw : zHw x A s.heap (zMW x a (zTq (g 6) n y q0 v 0) g nu f) H locs := hw
    refine W.eq (g2 := F0 m 19 ls [.int 0]) (by rw [zb_f hd]) ?_
    refine lv_istore_n (lv' := [(3, .int 0), (0, .ref (a 0)), (1, .int 0), (2, .int (nI most))]) hx hb dX6_number_19 rfl hl (by decide) rfl (fun ls hl => ?_)
    refine lv_iconst (v := 0) hx hb dX6_number_20 (by decide) ?_
    refine lv_istore (lv' := [(4, .int 0), (3, .int 0), (0, .ref (a 0)), (1, .int 0), (2, .int (nI most))]) hx hb dX6_number_21 hl (by decide) rfl (fun ls hl => ?_)
    refine lv_aload_n hx hb dX6_number_23 rfl (lv_at hl 2 rfl) ?_
    refine gfX6_198 hx hb hown hts hK hw 0 rfl rfl dX6_number_24 ?_
    refine W.eq (g2 := F0 m 27 ls [.int (nI y)]) (by rfl) ?_
    refine lv_istore (lv' := [(5, .int (nI y)), (4, .int 0), (3, .int 0), (0, .ref (a 0)), (1, .int 0), (2, .int (nI most))]) hx hb dX6_number_27 hl (by decide) rfl (fun ls hl => ?_)
    refine lv_iload hx hb dX6_number_29 (lv_at hl 0 rfl) ?_
    refine lv_aload_n hx hb dX6_number_31 rfl (lv_at hl 3 rfl) ?_
    refine gfX6_195 hx hb hown hts hK hw 0 rfl rfl dX6_number_32 ?_
    refine W.eq (g2 := F0 m 35 ls [.int (nI (zEn (g 6) n y)), .int (nI y)]) (by rfl) ?_
    refine lv_icmp_ge (tgt := 79) hx hb dX6_number_35 (by decide) (fun c35 => ?_) (fun c35 => ?_)
    · refine lv_aload_n hx hb dX6_number_79 rfl (lv_at hl 3 rfl) ?_
      refine lv_iload hx hb dX6_number_80 (lv_at hl 1 rfl) ?_
      refine pfX6_221 hx hb hown hts hK hw 0 rfl (Nat.le_of_ble_eq_true rfl) dX6_number_82 (fun H locs hw => ?_)
      have hw : zHw x A s.heap (zMW x a (upd (zTq (g 6) n y q0 v 0) 4 0) g nu f) H locs := hw
      refine lv_aload_n hx hb dX6_number_85 rfl (lv_at hl 3 rfl) ?_
      refine lv_iload_n hx hb dX6_number_86 rfl (lv_at hl 2 rfl) ?_
      refine lv_if_eq (tgt := 107) hx hb dX6_number_87 (by decide) (fun c87 => ?_) (fun c87 => absurd (by decide) c87)
      refine lv_iconst (v := 0) hx hb dX6_number_107 (by decide) ?_
      have hw : zHw x A s.heap (zMW x a (zTq (g 6) n y q0 0 0) g nu f) H locs := hw.re (zMW6 rfl rfl rfl rfl rfl rfl)
      refine zcVwv hx hb hml hown hts hl.1 hK hE hA lkX6_224 (c_X6_must_f x a g nu f n y q0 (0) hn hy) ⟨Nat.le_of_ble_eq_true rfl, Nat.le_of_ble_eq_true rfl⟩ ⟨Nat.zero_le _, Nat.zero_le _⟩ hw 0 4 rfl rfl rfl rfl (Nat.le_of_ble_eq_true rfl) dX6_number_108 (fun H locs hw => ?_)
      have hw : zHw x A s.heap (zMW x a (zTq (g 6) n y q0 0 1) g nu f) H locs := hw
      exact zFG.vret hx hb hr hlocks hQ hw rfl dX6_number_111 ⟨rfl, 0, by rw [show zNu (g 6) n y most = none from if_neg (fun h => hd h.1)]⟩
    · refine lv_iload_n hx hb dX6_number_38 rfl (lv_at hl 2 rfl) ?_
      refine lv_if_eq (tgt := 79) hx hb dX6_number_39 (by decide) (fun c39 => ?_) (fun c39 => absurd (by decide) c39)
      refine lv_aload_n hx hb dX6_number_79 rfl (lv_at hl 3 rfl) ?_
      refine lv_iload hx hb dX6_number_80 (lv_at hl 1 rfl) ?_
      refine pfX6_221 hx hb hown hts hK hw 0 rfl (Nat.le_of_ble_eq_true rfl) dX6_number_82 (fun H locs hw => ?_)
      have hw : zHw x A s.heap (zMW x a (upd (zTq (g 6) n y q0 v 0) 4 0) g nu f) H locs := hw
      refine lv_aload_n hx hb dX6_number_85 rfl (lv_at hl 3 rfl) ?_
      refine lv_iload_n hx hb dX6_number_86 rfl (lv_at hl 2 rfl) ?_
      refine lv_if_eq (tgt := 107) hx hb dX6_number_87 (by decide) (fun c87 => ?_) (fun c87 => absurd (by decide) c87)
      refine lv_iconst (v := 0) hx hb dX6_number_107 (by decide) ?_
      have hw : zHw x A s.heap (zMW x a (zTq (g 6) n y q0 0 0) g nu f) H locs := hw.re (zMW6 rfl rfl rfl rfl rfl rfl)
      refine zcVwv hx hb hml hown hts hl.1 hK hE hA lkX6_224 (c_X6_must_f x a g nu f n y q0 (0) hn hy) ⟨Nat.le_of_ble_eq_true rfl, Nat.le_of_ble_eq_true rfl⟩ ⟨Nat.zero_le _, Nat.zero_le _⟩ hw 0 4 rfl rfl rfl rfl (Nat.le_of_ble_eq_true rfl) dX6_number_108 (fun H locs hw => ?_)
      have hw : zHw x A s.heap (zMW x a (zTq (g 6) n y q0 0 1) g nu f) H locs := hw
      exact zFG.vret hx hb hr hlocks hQ hw rfl dX6_number_111 ⟨rfl, 0, by rw [show zNu (g 6) n y most = none from if_neg (fun h => hd h.1)]⟩
