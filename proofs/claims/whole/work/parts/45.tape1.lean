set_option maxHeartbeats 4000000 in
set_option maxRecDepth 100000 in
theorem c_X2_endOfRun (x : zX) (b : Nat → Nat) (tb tq : Nat → Int32) (p0 n : Nat) (lo hi : Int32) (htl : tq 0 = nI n) (hn : n ≤ 120) (hpn : p0 ≤ n) : zFF x mX2_endOfRun 0 [.ref (b 1), .int (nI p0), .int lo, .int hi] (zPW x b tb tq) (some (.int (nI (zRu tb n lo hi p0)))) (zPW x b tb tq) := by
  refine zFG.start RX2 cX2_endOfRun 5 (some .int) rfl rfl (by decide +kernel) (Nat.le_of_ble_eq_true rfl) ?_
  intro p e s m ar below meth c ls A Q hx hb hr hml hown hts hlocks hK hE hA hQ hl hw
  have hl : lv_has ls 5 [(0, .ref (b 1)), (1, .int (nI p0)), (2, .int lo), (3, .int hi)] := hl
  have hw : zHw x A s.heap (zPW x b tb tq) s.heap [] := hw
  refine lv_iload_n hx hb dX2_endOfRun_0 rfl (lv_at hl 1 rfl) ?_
  refine lv_istore (lv' := [(4, .int (nI p0)), (0, .ref (b 1)), (1, .int (nI p0)), (2, .int lo), (3, .int hi)]) hx hb dX2_endOfRun_1 hl (by decide) rfl (fun ls hl => ?_)
  have loop3 : ∀ (dd : Nat) (k : Nat), n - k < dd → (hk : k ≤ n) → (e1 : zRu tb n lo hi k = zRu tb n lo hi p0) → ∀ (H : Heap) (locs : List Loc) (ls : Array Slot), zHw x A s.heap (zPW x b tb tq) H locs → lv_has ls 5 [(0, .ref (b 1)), (2, .int lo), (3, .int hi), (4, .int (nI k))] → W p x.1 e (zRM 0) s m ar below meth c H locs 0 0 Q (F0 m 3 ls []) := by
    intro dd
    induction dd with
    | zero => intro k hm; exact absurd hm (Nat.not_lt_zero _)
    | succ dd ih3 =>
      intro k hm hk e1 H locs ls hw hl
      refine lv_iload hx hb dX2_endOfRun_3 (lv_at hl 3 rfl) ?_
      refine lv_aload_n hx hb dX2_endOfRun_5 rfl (lv_at hl 0 rfl) ?_
      refine gfX2_15 hx hb hown hts hK hw 0 rfl rfl dX2_endOfRun_6 ?_
      refine W.eq (g2 := F0 m 9 ls [.int (nI n), .int (nI k)]) (by rw [htl]) ?_
      refine lv_icmp_ge (tgt := 40) hx hb dX2_endOfRun_9 (by decide) (fun c9 => ?_) (fun c9 => ?_)
      · refine lv_iload hx hb dX2_endOfRun_40 (lv_at hl 3 rfl) ?_
        exact zFG.iret hx hb hr hlocks hQ hw rfl dX2_endOfRun_42 ⟨zsi (congrArg nI (by rw [← e1]; exact (zRu_f (fun h => absurd c9 (nI_ge h.1 (by omega)))).symm)), rfl⟩
      · have hkn : k < n := Nat.lt_of_not_le (fun h => c9 (nI_le h (by omega)))
        refine lv_aload_n hx hb dX2_endOfRun_12 rfl (lv_at hl 0 rfl) ?_
        refine gfX2_9 hx hb hown hts hK hw 0 rfl rfl dX2_endOfRun_13 ?_
        refine lv_iload hx hb dX2_endOfRun_16 (lv_at hl 3 rfl) ?_
        refine zial hx hb hK hw 1 0 k rfl rfl rfl (by omega) (by decide) dX2_endOfRun_18 ?_
        refine lv_iload_n hx hb dX2_endOfRun_19 rfl (lv_at hl 1 rfl) ?_
        refine lv_icmp_lt (tgt := 40) hx hb dX2_endOfRun_20 (by decide) (fun c20 => ?_) (fun c20 => ?_)
        · refine lv_iload hx hb dX2_endOfRun_40 (lv_at hl 3 rfl) ?_
          exact zFG.iret hx hb hr hlocks hQ hw rfl dX2_endOfRun_42 ⟨zsi (congrArg nI (by rw [← e1]; exact (zRu_f (fun h => absurd h.2.1 (Int32.not_le.mpr c20))).symm)), rfl⟩
        · refine lv_aload_n hx hb dX2_endOfRun_23 rfl (lv_at hl 0 rfl) ?_
          refine gfX2_9 hx hb hown hts hK hw 0 rfl rfl dX2_endOfRun_24 ?_
          refine lv_iload hx hb dX2_endOfRun_27 (lv_at hl 3 rfl) ?_
          refine zial hx hb hK hw 1 0 k rfl rfl rfl (by omega) (by decide) dX2_endOfRun_29 ?_
          refine lv_iload_n hx hb dX2_endOfRun_30 rfl (lv_at hl 2 rfl) ?_
          refine lv_icmp_gt (tgt := 40) hx hb dX2_endOfRun_31 (by decide) (fun c31 => ?_) (fun c31 => ?_)
          · refine lv_iload hx hb dX2_endOfRun_40 (lv_at hl 3 rfl) ?_
            exact zFG.iret hx hb hr hlocks hQ hw rfl dX2_endOfRun_42 ⟨zsi (congrArg nI (by rw [← e1]; exact (zRu_f (fun h => absurd h.2.2 (Int32.not_le.mpr c31))).symm)), rfl⟩
          · refine lv_iinc (v := nI (k + 1)) (lv' := [(4, .int (nI (k + 1))), (0, .ref (b 1)), (2, .int lo), (3, .int hi)]) hx hb dX2_endOfRun_34 hl (k := 3) rfl (nI_1 k) (by decide) rfl (fun ls hl => ?_)
            refine lv_goto (tgt := 3) hx hb dX2_endOfRun_37 (by decide) ?_
            exact ih3 (k + 1) (by omega) (by omega) ((zRu_t hkn ⟨Int32.not_lt.mp c20, Int32.not_lt.mp c31⟩).trans e1) _ _ _ hw (lv_sub hl [1, 2, 3, 0] rfl)
  exact loop3 (_ + 1) p0 (Nat.lt_succ_self _) hpn rfl _ _ _ hw (lv_sub hl [1, 3, 4, 0] rfl)

set_option maxHeartbeats 4000000 in
set_option maxRecDepth 100000 in
theorem c_X2_valueOfToken (x : zX) (b : Nat → Nat) (tb tq : Nat → Int32) (y n : Nat) (hs : tq 2 = nI y) (he : tq 3 = nI (zEn tb n y)) (hd : zDg tb n y) (hn : n ≤ 120) : zFF x mX2_valueOfToken 1 [.ref (b 1)] (zPW x b tb tq) (some (.int (nI (zVm tb y (zEn tb n y - y))))) (zPW x b tb tq) := by
  have hye := zEn_ge tb n y
  have hen := zEn_le (B := tb) (Nat.le_of_lt hd.1)
  refine zFG.start RX2 cX2_valueOfToken 3 (some .int) rfl rfl (by decide +kernel) (Nat.le_of_ble_eq_true rfl) ?_
  intro p e s m ar below meth c ls A Q hx hb hr hml hown hts hlocks hK hE hA hQ hl hw
  have hl : lv_has ls 3 [(0, .ref (b 1))] := hl
  have hw : zHw x A s.heap (zPW x b tb tq) s.heap [] := hw
  refine lv_iconst (v := 0) hx hb dX2_valueOfToken_0 (by decide) ?_
  refine lv_istore_n (lv' := [(1, .int 0), (0, .ref (b 1))]) hx hb dX2_valueOfToken_1 rfl hl (by decide) rfl (fun ls hl => ?_)
  refine lv_aload_n hx hb dX2_valueOfToken_2 rfl (lv_at hl 1 rfl) ?_
  refine gfX2_22 hx hb hown hts hK hw 0 rfl rfl dX2_valueOfToken_3 ?_
  refine W.eq (g2 := F0 m 6 ls [.int (nI y)]) (by rw [hs]) ?_
  have hl : lv_has ls 3 [(1, .int (nI (zVm tb y (y - y)))), (0, .ref (b 1))] := by
    have e0 : nI (zVm tb y (y - y)) = 0 := by rw [Nat.sub_self]; rfl
    rw [e0]; exact hl
  refine lv_istore_n (lv' := [(2, .int (nI y)), (1, .int (nI (zVm tb y (y - y)))), (0, .ref (b 1))]) hx hb dX2_valueOfToken_6 rfl hl (by decide) rfl (fun ls hl => ?_)
  have loop7 : ∀ (dd : Nat) (k : Nat), zEn tb n y - k < dd → (hyk : y ≤ k) → (hke : k ≤ zEn tb n y) → ∀ (H : Heap) (locs : List Loc) (ls : Array Slot), zHw x A s.heap (zPW x b tb tq) H locs → lv_has ls 3 [(0, .ref (b 1)), (1, .int (nI (zVm tb y (k - y)))), (2, .int (nI k))] → W p x.1 e (zRM 1) s m ar below meth c H locs 0 0 Q (F0 m 7 ls []) := by
    intro dd
    induction dd with
    | zero => intro k hm; exact absurd hm (Nat.not_lt_zero _)
    | succ dd ih7 =>
      intro k hm hyk hke H locs ls hw hl
      refine lv_iload_n hx hb dX2_valueOfToken_7 rfl (lv_at hl 2 rfl) ?_
      refine lv_aload_n hx hb dX2_valueOfToken_8 rfl (lv_at hl 0 rfl) ?_
      refine gfX2_25 hx hb hown hts hK hw 0 rfl rfl dX2_valueOfToken_9 ?_
      refine W.eq (g2 := F0 m 12 ls [.int (nI (zEn tb n y)), .int (nI k)]) (by rw [he]) ?_
      refine lv_icmp_ge (tgt := 43) hx hb dX2_valueOfToken_12 (by decide) (fun c12 => ?_) (fun c12 => ?_)
      · refine lv_iload_n hx hb dX2_valueOfToken_43 rfl (lv_at hl 1 rfl) ?_
        exact zFG.iret hx hb hr hlocks hQ hw rfl dX2_valueOfToken_44 ⟨zsi (by rw [show k = zEn tb n y from by have := Nat.le_of_not_lt (fun h => absurd c12 (nI_ge h (by omega))); omega]), rfl⟩
      · have hkt : k < zEn tb n y := Nat.lt_of_not_le (fun h => c12 (nI_le h (by omega)))
        have e2 : y + (k - y) = k := by omega
        have e1 : k + 1 - y = k - y + 1 := by omega
        have hdig : ∀ i, i < k - y + 1 → 48 ≤ tb (y + i) ∧ tb (y + i) ≤ 57 := fun i hi => zEn_inD hd (by omega)
        refine lv_iload_n hx hb dX2_valueOfToken_15 rfl (lv_at hl 1 rfl) ?_
        refine lv_sipush (v := 10000) hx hb dX2_valueOfToken_16 (by decide) ?_
        refine lv_icmp_ge (tgt := 37) hx hb dX2_valueOfToken_19 (by decide) (fun c19 => ?_) (fun c19 => ?_)
        · have hl : lv_has ls 3 [(0, .ref (b 1)), (1, .int (nI (zVm tb y (k + 1 - y)))), (2, .int (nI k))] := by
            have h2 := zVm_t2 hdig c19
            rw [← e1] at h2
            rw [← h2]; exact hl
          refine lv_iinc (v := nI (k + 1)) (lv' := [(2, .int (nI (k + 1))), (0, .ref (b 1)), (1, .int (nI (zVm tb y (k + 1 - y))))]) hx hb dX2_valueOfToken_37 hl (k := 2) rfl (nI_1 k) (by decide) rfl (fun ls hl => ?_)
          refine lv_goto (tgt := 7) hx hb dX2_valueOfToken_40 (by decide) ?_
          exact ih7 (k + 1) (by omega) (by omega) (by omega) _ _ _ hw (lv_sub hl [1, 2, 0] rfl)
        · refine lv_iload_n hx hb dX2_valueOfToken_22 rfl (lv_at hl 1 rfl) ?_
          refine lv_bipush (v := 10) hx hb dX2_valueOfToken_23 (by decide) ?_
          refine lv_imul hx hb dX2_valueOfToken_25 ?_
          refine lv_aload_n hx hb dX2_valueOfToken_26 rfl (lv_at hl 0 rfl) ?_
          refine gfX2_9 hx hb hown hts hK hw 0 rfl rfl dX2_valueOfToken_27 ?_
          refine lv_iload_n hx hb dX2_valueOfToken_30 rfl (lv_at hl 2 rfl) ?_
          refine zial hx hb hK hw 1 0 k rfl rfl rfl (by omega) (by decide) dX2_valueOfToken_31 ?_
          refine lv_iadd hx hb dX2_valueOfToken_32 ?_
          refine lv_bipush (v := 48) hx hb dX2_valueOfToken_33 (by decide) ?_
          refine lv_isub hx hb dX2_valueOfToken_35 ?_
          have hv2 := zVm_t1 hdig c19
          rw [e2, ← e1] at hv2
          refine W.eq (g2 := F0 m 36 ls [.int (nI (zVm tb y (k + 1 - y)))]) (by rw [← hv2]) ?_
          refine lv_istore_n (lv' := [(1, .int (nI (zVm tb y (k + 1 - y)))), (0, .ref (b 1)), (2, .int (nI k))]) hx hb dX2_valueOfToken_36 rfl hl (by decide) rfl (fun ls hl => ?_)
          refine lv_iinc (v := nI (k + 1)) (lv' := [(2, .int (nI (k + 1))), (1, .int (nI (zVm tb y (k + 1 - y)))), (0, .ref (b 1))]) hx hb dX2_valueOfToken_37 hl (k := 2) rfl (nI_1 k) (by decide) rfl (fun ls hl => ?_)
          refine lv_goto (tgt := 7) hx hb dX2_valueOfToken_40 (by decide) ?_
          exact ih7 (k + 1) (by omega) (by omega) (by omega) _ _ _ hw (lv_sub hl [2, 1, 0] rfl)
  exact loop7 (_ + 1) y (Nat.lt_succ_self _) (Nat.le_refl _) hye _ _ _ hw (lv_sub hl [2, 1, 0] rfl)

set_option maxHeartbeats 4000000 in
set_option maxRecDepth 100000 in
theorem c_X2_advance (x : zX) (b : Nat → Nat) (tb tq : Nat → Int32) (e0 n : Nat) (htl : tq 0 = nI n) (hte : tq 3 = nI e0) (hn : n ≤ 120) (hen : e0 ≤ n) : zFF x mX2_advance 2 [.ref (b 1)] (zPW x b tb tq) none (zPW x b tb (zTp tb n (zRu tb n 32 32 e0) (tq 4))) := by
  refine zFG.start RX2 cX2_advance 2 none rfl rfl (by decide +kernel) (Nat.le_of_ble_eq_true rfl) ?_
  intro p e s m ar below meth c ls A Q hx hb hr hml hown hts hlocks hK hE hA hQ hl hw
  have hl : lv_has ls 2 [(0, .ref (b 1))] := hl
  have hw : zHw x A s.heap (zPW x b tb tq) s.heap [] := hw
  refine lv_aload_n hx hb dX2_advance_0 rfl (lv_at hl 0 rfl) ?_
  refine lv_aload_n hx hb dX2_advance_1 rfl (lv_at hl 0 rfl) ?_
  refine lv_aload_n hx hb dX2_advance_2 rfl (lv_at hl 0 rfl) ?_
  refine gfX2_25 hx hb hown hts hK hw 0 rfl rfl dX2_advance_3 ?_
  refine W.eq (g2 := F0 m 6 ls [.int (nI e0), .ref (b 1), .ref (b 1)]) (by rw [hte]) ?_
  refine lv_bipush (v := 32) hx hb dX2_advance_6 (by decide) ?_
  refine lv_bipush (v := 32) hx hb dX2_advance_8 (by decide) ?_
  refine zcVwi (r := nI (zRu tb n 32 32 e0)) hx hb hml hown hts hl.1 hK hE hA lkX2_34 (c_X2_endOfRun x b tb (tq) e0 n 32 32 htl hn hen) ⟨Nat.le_of_ble_eq_true rfl, Nat.le_of_ble_eq_true rfl⟩ ⟨Nat.zero_le _, Nat.zero_le _⟩ hw 0 1 rfl rfl rfl rfl (Nat.le_of_ble_eq_true rfl) dX2_advance_10 (fun H locs hw => ?_)
  have hw : zHw x A s.heap (zPW x b tb tq) H locs := hw
  obtain ⟨y, hy0⟩ : ∃ y, y = zRu tb n 32 32 e0 := ⟨_, rfl⟩
  have hy : y ≤ n := by rw [hy0]; exact zRu_le hen
  refine W.eq (g2 := F0 m 13 ls [.int (nI y), .ref (b 1)]) (by rw [hy0]) ?_
  refine pfX2_22 hx hb hown hts hK hw 0 rfl (Nat.le_of_ble_eq_true rfl) dX2_advance_13 (fun H locs hw => ?_)
  have hw : zHw x A s.heap (zPW x b tb (upd tq 2 (nI y))) H locs := hw
  refine lv_aload_n hx hb dX2_advance_16 rfl (lv_at hl 0 rfl) ?_
  refine lv_aload_n hx hb dX2_advance_17 rfl (lv_at hl 0 rfl) ?_
  refine gfX2_22 hx hb hown hts hK hw 0 rfl rfl dX2_advance_18 ?_
  refine W.eq (g2 := F0 m 21 ls [.int (nI y), .ref (b 1)]) (by rfl) ?_
  refine pfX2_25 hx hb hown hts hK hw 0 rfl (Nat.le_of_ble_eq_true rfl) dX2_advance_21 (fun H locs hw => ?_)
  have hw : zHw x A s.heap (zPW x b tb (upd (upd tq 2 (nI y)) 3 (nI y))) H locs := hw
  refine lv_aload_n hx hb dX2_advance_24 rfl (lv_at hl 0 rfl) ?_
  refine lv_iconst (v := 0) hx hb dX2_advance_25 (by decide) ?_
  refine pfX2_19 hx hb hown hts hK hw 0 rfl (Nat.le_of_ble_eq_true rfl) dX2_advance_26 (fun H locs hw => ?_)
  have hw : zHw x A s.heap (zPW x b tb (upd (upd (upd tq 2 (nI y)) 3 (nI y)) 1 0)) H locs := hw
  refine lv_aload_n hx hb dX2_advance_29 rfl (lv_at hl 0 rfl) ?_
  refine gfX2_22 hx hb hown hts hK hw 0 rfl rfl dX2_advance_30 ?_
  refine W.eq (g2 := F0 m 33 ls [.int (nI y)]) (by rfl) ?_
  refine lv_aload_n hx hb dX2_advance_33 rfl (lv_at hl 0 rfl) ?_
  refine gfX2_15 hx hb hown hts hK hw 0 rfl rfl dX2_advance_34 ?_
  refine W.eq (g2 := F0 m 37 ls [.int (nI n), .int (nI y)]) (by rw [← htl]; rfl) ?_
  refine lv_icmp_lt (tgt := 41) hx hb dX2_advance_37 (by decide) (fun c37 => ?_) (fun c37 => ?_)
  · have hyn : y < n := (nI_ltI (by omega) (by omega)).mp c37
    refine lv_aload_n hx hb dX2_advance_41 rfl (lv_at hl 0 rfl) ?_
    refine gfX2_9 hx hb hown hts hK hw 0 rfl rfl dX2_advance_42 ?_
    refine lv_aload_n hx hb dX2_advance_45 rfl (lv_at hl 0 rfl) ?_
    refine gfX2_22 hx hb hown hts hK hw 0 rfl rfl dX2_advance_46 ?_
    refine W.eq (g2 := F0 m 49 ls [.int (nI y), .ref (b 2)]) (by rfl) ?_
    refine zial hx hb hK hw 1 0 y rfl rfl rfl (by omega) (by decide) dX2_advance_49 ?_
    refine lv_istore_n (lv' := [(1, .int (tb y)), (0, .ref (b 1))]) hx hb dX2_advance_50 rfl hl (by decide) rfl (fun ls hl => ?_)
    refine lv_iload_n hx hb dX2_advance_51 rfl (lv_at hl 0 rfl) ?_
    refine lv_bipush (v := 97) hx hb dX2_advance_52 (by decide) ?_
    refine lv_icmp_lt (tgt := 87) hx hb dX2_advance_54 (by decide) (fun c54 => ?_) (fun c54 => ?_)
    · have hL : ¬ zLt tb n y := fun h => absurd h.2.1 (Int32.not_le.mpr c54)
      refine lv_iload_n hx hb dX2_advance_87 rfl (lv_at hl 0 rfl) ?_
      refine lv_bipush (v := 48) hx hb dX2_advance_88 (by decide) ?_
      refine lv_icmp_lt (tgt := 131) hx hb dX2_advance_90 (by decide) (fun c90 => ?_) (fun c90 => ?_)
      · have hD : ¬ zDg tb n y := fun h => absurd h.2.1 (Int32.not_le.mpr c90)
        refine lv_aload_n hx hb dX2_advance_131 rfl (lv_at hl 1 rfl) ?_
        refine lv_iload_n hx hb dX2_advance_132 rfl (lv_at hl 0 rfl) ?_
        refine lv_bipush (v := 59) hx hb dX2_advance_133 (by decide) ?_
        refine lv_icmp_ne (tgt := 142) hx hb dX2_advance_135 (by decide) (fun c135 => ?_) (fun c135 => ?_)
        · refine lv_iconst (v := 4) hx hb dX2_advance_142 (by decide) ?_
          refine pfX2_19 hx hb hown hts hK hw 0 rfl (Nat.le_of_ble_eq_true rfl) dX2_advance_143 (fun H locs hw => ?_)
          have hw : zHw x A s.heap (zPW x b tb (upd (upd (upd (upd tq 2 (nI y)) 3 (nI y)) 1 0) 1 4)) H locs := hw
          refine lv_aload_n hx hb dX2_advance_146 rfl (lv_at hl 1 rfl) ?_
          refine lv_aload_n hx hb dX2_advance_147 rfl (lv_at hl 1 rfl) ?_
          refine gfX2_22 hx hb hown hts hK hw 0 rfl rfl dX2_advance_148 ?_
          refine W.eq (g2 := F0 m 151 ls [.int (nI y), .ref (b 1)]) (by rfl) ?_
          refine lv_iconst (v := 1) hx hb dX2_advance_151 (by decide) ?_
          refine lv_iadd hx hb dX2_advance_152 ?_
          refine pfX2_25 hx hb hown hts hK hw 0 rfl (Nat.le_of_ble_eq_true rfl) dX2_advance_153 (fun H locs hw => ?_)
          have hw : zHw x A s.heap (zPW x b tb (upd (upd (upd (upd (upd tq 2 (nI y)) 3 (nI y)) 1 0) 1 4) 3 ((nI y) + 1))) H locs := hw
          exact zFG.vret hx hb hr hlocks hQ hw rfl dX2_advance_156 ⟨rfl, by
              subst hy0
              exact zPW5 htl (zTk_4 hyn hL hD c135).symm rfl ((nI_1 _).trans (congrArg nI ((zEj_0 hyn).symm.trans (zEj_xN hL hD)).symm)) (if_neg hD).symm⟩
        · refine lv_iconst (v := 3) hx hb dX2_advance_138 (by decide) ?_
          refine lv_goto (tgt := 143) hx hb dX2_advance_139 (by decide) ?_
          refine pfX2_19 hx hb hown hts hK hw 0 rfl (Nat.le_of_ble_eq_true rfl) dX2_advance_143 (fun H locs hw => ?_)
          have hw : zHw x A s.heap (zPW x b tb (upd (upd (upd (upd tq 2 (nI y)) 3 (nI y)) 1 0) 1 3)) H locs := hw
          refine lv_aload_n hx hb dX2_advance_146 rfl (lv_at hl 1 rfl) ?_
          refine lv_aload_n hx hb dX2_advance_147 rfl (lv_at hl 1 rfl) ?_
          refine gfX2_22 hx hb hown hts hK hw 0 rfl rfl dX2_advance_148 ?_
          refine W.eq (g2 := F0 m 151 ls [.int (nI y), .ref (b 1)]) (by rfl) ?_
          refine lv_iconst (v := 1) hx hb dX2_advance_151 (by decide) ?_
          refine lv_iadd hx hb dX2_advance_152 ?_
          refine pfX2_25 hx hb hown hts hK hw 0 rfl (Nat.le_of_ble_eq_true rfl) dX2_advance_153 (fun H locs hw => ?_)
          have hw : zHw x A s.heap (zPW x b tb (upd (upd (upd (upd (upd tq 2 (nI y)) 3 (nI y)) 1 0) 1 3) 3 ((nI y) + 1))) H locs := hw
          exact zFG.vret hx hb hr hlocks hQ hw rfl dX2_advance_156 ⟨rfl, by
              subst hy0
              exact zPW5 htl (zTk_3 hyn hL hD c135).symm rfl ((nI_1 _).trans (congrArg nI ((zEj_0 hyn).symm.trans (zEj_xN hL hD)).symm)) (if_neg hD).symm⟩
      · refine lv_iload_n hx hb dX2_advance_93 rfl (lv_at hl 0 rfl) ?_
        refine lv_bipush (v := 57) hx hb dX2_advance_94 (by decide) ?_
        refine lv_icmp_gt (tgt := 131) hx hb dX2_advance_96 (by decide) (fun c96 => ?_) (fun c96 => ?_)
        · have hD : ¬ zDg tb n y := fun h => absurd h.2.2 (Int32.not_le.mpr c96)
          refine lv_aload_n hx hb dX2_advance_131 rfl (lv_at hl 1 rfl) ?_
          refine lv_iload_n hx hb dX2_advance_132 rfl (lv_at hl 0 rfl) ?_
          refine lv_bipush (v := 59) hx hb dX2_advance_133 (by decide) ?_
          refine lv_icmp_ne (tgt := 142) hx hb dX2_advance_135 (by decide) (fun c135 => ?_) (fun c135 => ?_)
          · refine lv_iconst (v := 4) hx hb dX2_advance_142 (by decide) ?_
            refine pfX2_19 hx hb hown hts hK hw 0 rfl (Nat.le_of_ble_eq_true rfl) dX2_advance_143 (fun H locs hw => ?_)
            have hw : zHw x A s.heap (zPW x b tb (upd (upd (upd (upd tq 2 (nI y)) 3 (nI y)) 1 0) 1 4)) H locs := hw
            refine lv_aload_n hx hb dX2_advance_146 rfl (lv_at hl 1 rfl) ?_
            refine lv_aload_n hx hb dX2_advance_147 rfl (lv_at hl 1 rfl) ?_
            refine gfX2_22 hx hb hown hts hK hw 0 rfl rfl dX2_advance_148 ?_
            refine W.eq (g2 := F0 m 151 ls [.int (nI y), .ref (b 1)]) (by rfl) ?_
            refine lv_iconst (v := 1) hx hb dX2_advance_151 (by decide) ?_
            refine lv_iadd hx hb dX2_advance_152 ?_
            refine pfX2_25 hx hb hown hts hK hw 0 rfl (Nat.le_of_ble_eq_true rfl) dX2_advance_153 (fun H locs hw => ?_)
            have hw : zHw x A s.heap (zPW x b tb (upd (upd (upd (upd (upd tq 2 (nI y)) 3 (nI y)) 1 0) 1 4) 3 ((nI y) + 1))) H locs := hw
            exact zFG.vret hx hb hr hlocks hQ hw rfl dX2_advance_156 ⟨rfl, by
                subst hy0
                exact zPW5 htl (zTk_4 hyn hL hD c135).symm rfl ((nI_1 _).trans (congrArg nI ((zEj_0 hyn).symm.trans (zEj_xN hL hD)).symm)) (if_neg hD).symm⟩
          · refine lv_iconst (v := 3) hx hb dX2_advance_138 (by decide) ?_
            refine lv_goto (tgt := 143) hx hb dX2_advance_139 (by decide) ?_
            refine pfX2_19 hx hb hown hts hK hw 0 rfl (Nat.le_of_ble_eq_true rfl) dX2_advance_143 (fun H locs hw => ?_)
            have hw : zHw x A s.heap (zPW x b tb (upd (upd (upd (upd tq 2 (nI y)) 3 (nI y)) 1 0) 1 3)) H locs := hw
            refine lv_aload_n hx hb dX2_advance_146 rfl (lv_at hl 1 rfl) ?_
            refine lv_aload_n hx hb dX2_advance_147 rfl (lv_at hl 1 rfl) ?_
            refine gfX2_22 hx hb hown hts hK hw 0 rfl rfl dX2_advance_148 ?_
            refine W.eq (g2 := F0 m 151 ls [.int (nI y), .ref (b 1)]) (by rfl) ?_
            refine lv_iconst (v := 1) hx hb dX2_advance_151 (by decide) ?_
            refine lv_iadd hx hb dX2_advance_152 ?_
            refine pfX2_25 hx hb hown hts hK hw 0 rfl (Nat.le_of_ble_eq_true rfl) dX2_advance_153 (fun H locs hw => ?_)
            have hw : zHw x A s.heap (zPW x b tb (upd (upd (upd (upd (upd tq 2 (nI y)) 3 (nI y)) 1 0) 1 3) 3 ((nI y) + 1))) H locs := hw
            exact zFG.vret hx hb hr hlocks hQ hw rfl dX2_advance_156 ⟨rfl, by
                subst hy0
                exact zPW5 htl (zTk_3 hyn hL hD c135).symm rfl ((nI_1 _).trans (congrArg nI ((zEj_0 hyn).symm.trans (zEj_xN hL hD)).symm)) (if_neg hD).symm⟩
        · have hD : zDg tb n y := ⟨hyn, Int32.not_lt.mp c90, Int32.not_lt.mp c96⟩
          refine lv_aload_n hx hb dX2_advance_99 rfl (lv_at hl 1 rfl) ?_
          refine lv_iconst (v := 2) hx hb dX2_advance_100 (by decide) ?_
          refine pfX2_19 hx hb hown hts hK hw 0 rfl (Nat.le_of_ble_eq_true rfl) dX2_advance_101 (fun H locs hw => ?_)
          have hw : zHw x A s.heap (zPW x b tb (upd (upd (upd (upd tq 2 (nI y)) 3 (nI y)) 1 0) 1 2)) H locs := hw
          refine lv_aload_n hx hb dX2_advance_104 rfl (lv_at hl 1 rfl) ?_
          refine lv_aload_n hx hb dX2_advance_105 rfl (lv_at hl 1 rfl) ?_
          refine lv_aload_n hx hb dX2_advance_106 rfl (lv_at hl 1 rfl) ?_
          refine gfX2_22 hx hb hown hts hK hw 0 rfl rfl dX2_advance_107 ?_
          refine W.eq (g2 := F0 m 110 ls [.int (nI y), .ref (b 1), .ref (b 1)]) (by rfl) ?_
          refine lv_bipush (v := 48) hx hb dX2_advance_110 (by decide) ?_
          refine lv_bipush (v := 57) hx hb dX2_advance_112 (by decide) ?_
          refine zcVwi (r := nI (zRu tb n 48 57 y)) hx hb hml hown hts hl.1 hK hE hA lkX2_34 (c_X2_endOfRun x b tb (upd (upd (upd (upd tq 2 (nI y)) 3 (nI y)) 1 0) 1 2) y n 48 57 htl hn hy) ⟨Nat.le_of_ble_eq_true rfl, Nat.le_of_ble_eq_true rfl⟩ ⟨Nat.zero_le _, Nat.zero_le _⟩ hw 0 1 rfl rfl rfl rfl (Nat.le_of_ble_eq_true rfl) dX2_advance_114 (fun H locs hw => ?_)
          have hw : zHw x A s.heap (zPW x b tb (upd (upd (upd (upd tq 2 (nI y)) 3 (nI y)) 1 0) 1 2)) H locs := hw
          refine pfX2_25 hx hb hown hts hK hw 0 rfl (Nat.le_of_ble_eq_true rfl) dX2_advance_117 (fun H locs hw => ?_)
          have hw : zHw x A s.heap (zPW x b tb (upd (upd (upd (upd (upd tq 2 (nI y)) 3 (nI y)) 1 0) 1 2) 3 (nI (zRu tb n 48 57 y)))) H locs := hw
          refine lv_aload_n hx hb dX2_advance_120 rfl (lv_at hl 1 rfl) ?_
          refine lv_aload_n hx hb dX2_advance_121 rfl (lv_at hl 1 rfl) ?_
          refine zcVwi (r := nI (zVm tb y (zEn tb n y - y))) hx hb hml hown hts hl.1 hK hE hA lkX2_38 (c_X2_valueOfToken x b tb (upd (upd (upd (upd (upd tq 2 (nI y)) 3 (nI y)) 1 0) 1 2) 3 (nI (zRu tb n 48 57 y))) y n rfl (congrArg nI (zEn_D hD).symm) hD hn) ⟨Nat.le_of_ble_eq_true rfl, Nat.le_of_ble_eq_true rfl⟩ ⟨Nat.zero_le _, Nat.zero_le _⟩ hw 0 1 rfl rfl rfl rfl (Nat.le_of_ble_eq_true rfl) dX2_advance_122 (fun H locs hw => ?_)
          have hw : zHw x A s.heap (zPW x b tb (upd (upd (upd (upd (upd tq 2 (nI y)) 3 (nI y)) 1 0) 1 2) 3 (nI (zRu tb n 48 57 y)))) H locs := hw
          refine pfX2_28 hx hb hown hts hK hw 0 rfl (Nat.le_of_ble_eq_true rfl) dX2_advance_125 (fun H locs hw => ?_)
          have hw : zHw x A s.heap (zPW x b tb (upd (upd (upd (upd (upd (upd tq 2 (nI y)) 3 (nI y)) 1 0) 1 2) 3 (nI (zRu tb n 48 57 y))) 4 (nI (zVm tb y (zEn tb n y - y))))) H locs := hw
          refine lv_goto (tgt := 156) hx hb dX2_advance_128 (by decide) ?_
          exact zFG.vret hx hb hr hlocks hQ hw rfl dX2_advance_156 ⟨rfl, by
              subst hy0
              exact zPW5 htl (zTk_D hD).symm rfl (congrArg nI (zEn_D hD).symm) (if_pos hD).symm⟩
    · refine lv_iload_n hx hb dX2_advance_57 rfl (lv_at hl 0 rfl) ?_
      refine lv_bipush (v := 122) hx hb dX2_advance_58 (by decide) ?_
      refine lv_icmp_gt (tgt := 87) hx hb dX2_advance_60 (by decide) (fun c60 => ?_) (fun c60 => ?_)
      · have hL : ¬ zLt tb n y := fun h => absurd h.2.2 (Int32.not_le.mpr c60)
        refine lv_iload_n hx hb dX2_advance_87 rfl (lv_at hl 0 rfl) ?_
        refine lv_bipush (v := 48) hx hb dX2_advance_88 (by decide) ?_
        refine lv_icmp_lt (tgt := 131) hx hb dX2_advance_90 (by decide) (fun c90 => ?_) (fun c90 => ?_)
        · have hD : ¬ zDg tb n y := fun h => absurd h.2.1 (Int32.not_le.mpr c90)
          refine lv_aload_n hx hb dX2_advance_131 rfl (lv_at hl 1 rfl) ?_
          refine lv_iload_n hx hb dX2_advance_132 rfl (lv_at hl 0 rfl) ?_
          refine lv_bipush (v := 59) hx hb dX2_advance_133 (by decide) ?_
          refine lv_icmp_ne (tgt := 142) hx hb dX2_advance_135 (by decide) (fun c135 => ?_) (fun c135 => ?_)
          · refine lv_iconst (v := 4) hx hb dX2_advance_142 (by decide) ?_
            refine pfX2_19 hx hb hown hts hK hw 0 rfl (Nat.le_of_ble_eq_true rfl) dX2_advance_143 (fun H locs hw => ?_)
            have hw : zHw x A s.heap (zPW x b tb (upd (upd (upd (upd tq 2 (nI y)) 3 (nI y)) 1 0) 1 4)) H locs := hw
            refine lv_aload_n hx hb dX2_advance_146 rfl (lv_at hl 1 rfl) ?_
            refine lv_aload_n hx hb dX2_advance_147 rfl (lv_at hl 1 rfl) ?_
            refine gfX2_22 hx hb hown hts hK hw 0 rfl rfl dX2_advance_148 ?_
            refine W.eq (g2 := F0 m 151 ls [.int (nI y), .ref (b 1)]) (by rfl) ?_
            refine lv_iconst (v := 1) hx hb dX2_advance_151 (by decide) ?_
            refine lv_iadd hx hb dX2_advance_152 ?_
            refine pfX2_25 hx hb hown hts hK hw 0 rfl (Nat.le_of_ble_eq_true rfl) dX2_advance_153 (fun H locs hw => ?_)
            have hw : zHw x A s.heap (zPW x b tb (upd (upd (upd (upd (upd tq 2 (nI y)) 3 (nI y)) 1 0) 1 4) 3 ((nI y) + 1))) H locs := hw
            exact zFG.vret hx hb hr hlocks hQ hw rfl dX2_advance_156 ⟨rfl, by
                subst hy0
                exact zPW5 htl (zTk_4 hyn hL hD c135).symm rfl ((nI_1 _).trans (congrArg nI ((zEj_0 hyn).symm.trans (zEj_xN hL hD)).symm)) (if_neg hD).symm⟩
          · refine lv_iconst (v := 3) hx hb dX2_advance_138 (by decide) ?_
            refine lv_goto (tgt := 143) hx hb dX2_advance_139 (by decide) ?_
            refine pfX2_19 hx hb hown hts hK hw 0 rfl (Nat.le_of_ble_eq_true rfl) dX2_advance_143 (fun H locs hw => ?_)
            have hw : zHw x A s.heap (zPW x b tb (upd (upd (upd (upd tq 2 (nI y)) 3 (nI y)) 1 0) 1 3)) H locs := hw
            refine lv_aload_n hx hb dX2_advance_146 rfl (lv_at hl 1 rfl) ?_
            refine lv_aload_n hx hb dX2_advance_147 rfl (lv_at hl 1 rfl) ?_
            refine gfX2_22 hx hb hown hts hK hw 0 rfl rfl dX2_advance_148 ?_
            refine W.eq (g2 := F0 m 151 ls [.int (nI y), .ref (b 1)]) (by rfl) ?_
            refine lv_iconst (v := 1) hx hb dX2_advance_151 (by decide) ?_
            refine lv_iadd hx hb dX2_advance_152 ?_
            refine pfX2_25 hx hb hown hts hK hw 0 rfl (Nat.le_of_ble_eq_true rfl) dX2_advance_153 (fun H locs hw => ?_)
            have hw : zHw x A s.heap (zPW x b tb (upd (upd (upd (upd (upd tq 2 (nI y)) 3 (nI y)) 1 0) 1 3) 3 ((nI y) + 1))) H locs := hw
            exact zFG.vret hx hb hr hlocks hQ hw rfl dX2_advance_156 ⟨rfl, by
                subst hy0
                exact zPW5 htl (zTk_3 hyn hL hD c135).symm rfl ((nI_1 _).trans (congrArg nI ((zEj_0 hyn).symm.trans (zEj_xN hL hD)).symm)) (if_neg hD).symm⟩
        · refine lv_iload_n hx hb dX2_advance_93 rfl (lv_at hl 0 rfl) ?_
          refine lv_bipush (v := 57) hx hb dX2_advance_94 (by decide) ?_
          refine lv_icmp_gt (tgt := 131) hx hb dX2_advance_96 (by decide) (fun c96 => ?_) (fun c96 => ?_)
          · have hD : ¬ zDg tb n y := fun h => absurd h.2.2 (Int32.not_le.mpr c96)
            refine lv_aload_n hx hb dX2_advance_131 rfl (lv_at hl 1 rfl) ?_
            refine lv_iload_n hx hb dX2_advance_132 rfl (lv_at hl 0 rfl) ?_
            refine lv_bipush (v := 59) hx hb dX2_advance_133 (by decide) ?_
            refine lv_icmp_ne (tgt := 142) hx hb dX2_advance_135 (by decide) (fun c135 => ?_) (fun c135 => ?_)
            · refine lv_iconst (v := 4) hx hb dX2_advance_142 (by decide) ?_
              refine pfX2_19 hx hb hown hts hK hw 0 rfl (Nat.le_of_ble_eq_true rfl) dX2_advance_143 (fun H locs hw => ?_)
              have hw : zHw x A s.heap (zPW x b tb (upd (upd (upd (upd tq 2 (nI y)) 3 (nI y)) 1 0) 1 4)) H locs := hw
              refine lv_aload_n hx hb dX2_advance_146 rfl (lv_at hl 1 rfl) ?_
              refine lv_aload_n hx hb dX2_advance_147 rfl (lv_at hl 1 rfl) ?_
              refine gfX2_22 hx hb hown hts hK hw 0 rfl rfl dX2_advance_148 ?_
              refine W.eq (g2 := F0 m 151 ls [.int (nI y), .ref (b 1)]) (by rfl) ?_
              refine lv_iconst (v := 1) hx hb dX2_advance_151 (by decide) ?_
              refine lv_iadd hx hb dX2_advance_152 ?_
              refine pfX2_25 hx hb hown hts hK hw 0 rfl (Nat.le_of_ble_eq_true rfl) dX2_advance_153 (fun H locs hw => ?_)
              have hw : zHw x A s.heap (zPW x b tb (upd (upd (upd (upd (upd tq 2 (nI y)) 3 (nI y)) 1 0) 1 4) 3 ((nI y) + 1))) H locs := hw
              exact zFG.vret hx hb hr hlocks hQ hw rfl dX2_advance_156 ⟨rfl, by
                  subst hy0
                  exact zPW5 htl (zTk_4 hyn hL hD c135).symm rfl ((nI_1 _).trans (congrArg nI ((zEj_0 hyn).symm.trans (zEj_xN hL hD)).symm)) (if_neg hD).symm⟩
            · refine lv_iconst (v := 3) hx hb dX2_advance_138 (by decide) ?_
              refine lv_goto (tgt := 143) hx hb dX2_advance_139 (by decide) ?_
              refine pfX2_19 hx hb hown hts hK hw 0 rfl (Nat.le_of_ble_eq_true rfl) dX2_advance_143 (fun H locs hw => ?_)
              have hw : zHw x A s.heap (zPW x b tb (upd (upd (upd (upd tq 2 (nI y)) 3 (nI y)) 1 0) 1 3)) H locs := hw
              refine lv_aload_n hx hb dX2_advance_146 rfl (lv_at hl 1 rfl) ?_
              refine lv_aload_n hx hb dX2_advance_147 rfl (lv_at hl 1 rfl) ?_
              refine gfX2_22 hx hb hown hts hK hw 0 rfl rfl dX2_advance_148 ?_
              refine W.eq (g2 := F0 m 151 ls [.int (nI y), .ref (b 1)]) (by rfl) ?_
              refine lv_iconst (v := 1) hx hb dX2_advance_151 (by decide) ?_
              refine lv_iadd hx hb dX2_advance_152 ?_
              refine pfX2_25 hx hb hown hts hK hw 0 rfl (Nat.le_of_ble_eq_true rfl) dX2_advance_153 (fun H locs hw => ?_)
              have hw : zHw x A s.heap (zPW x b tb (upd (upd (upd (upd (upd tq 2 (nI y)) 3 (nI y)) 1 0) 1 3) 3 ((nI y) + 1))) H locs := hw
              exact zFG.vret hx hb hr hlocks hQ hw rfl dX2_advance_156 ⟨rfl, by
                  subst hy0
                  exact zPW5 htl (zTk_3 hyn hL hD c135).symm rfl ((nI_1 _).trans (congrArg nI ((zEj_0 hyn).symm.trans (zEj_xN hL hD)).symm)) (if_neg hD).symm⟩
          · have hD : zDg tb n y := ⟨hyn, Int32.not_lt.mp c90, Int32.not_lt.mp c96⟩
            refine lv_aload_n hx hb dX2_advance_99 rfl (lv_at hl 1 rfl) ?_
            refine lv_iconst (v := 2) hx hb dX2_advance_100 (by decide) ?_
            refine pfX2_19 hx hb hown hts hK hw 0 rfl (Nat.le_of_ble_eq_true rfl) dX2_advance_101 (fun H locs hw => ?_)
            have hw : zHw x A s.heap (zPW x b tb (upd (upd (upd (upd tq 2 (nI y)) 3 (nI y)) 1 0) 1 2)) H locs := hw
            refine lv_aload_n hx hb dX2_advance_104 rfl (lv_at hl 1 rfl) ?_
            refine lv_aload_n hx hb dX2_advance_105 rfl (lv_at hl 1 rfl) ?_
            refine lv_aload_n hx hb dX2_advance_106 rfl (lv_at hl 1 rfl) ?_
            refine gfX2_22 hx hb hown hts hK hw 0 rfl rfl dX2_advance_107 ?_
            refine W.eq (g2 := F0 m 110 ls [.int (nI y), .ref (b 1), .ref (b 1)]) (by rfl) ?_
            refine lv_bipush (v := 48) hx hb dX2_advance_110 (by decide) ?_
            refine lv_bipush (v := 57) hx hb dX2_advance_112 (by decide) ?_
            refine zcVwi (r := nI (zRu tb n 48 57 y)) hx hb hml hown hts hl.1 hK hE hA lkX2_34 (c_X2_endOfRun x b tb (upd (upd (upd (upd tq 2 (nI y)) 3 (nI y)) 1 0) 1 2) y n 48 57 htl hn hy) ⟨Nat.le_of_ble_eq_true rfl, Nat.le_of_ble_eq_true rfl⟩ ⟨Nat.zero_le _, Nat.zero_le _⟩ hw 0 1 rfl rfl rfl rfl (Nat.le_of_ble_eq_true rfl) dX2_advance_114 (fun H locs hw => ?_)
            have hw : zHw x A s.heap (zPW x b tb (upd (upd (upd (upd tq 2 (nI y)) 3 (nI y)) 1 0) 1 2)) H locs := hw
            refine pfX2_25 hx hb hown hts hK hw 0 rfl (Nat.le_of_ble_eq_true rfl) dX2_advance_117 (fun H locs hw => ?_)
            have hw : zHw x A s.heap (zPW x b tb (upd (upd (upd (upd (upd tq 2 (nI y)) 3 (nI y)) 1 0) 1 2) 3 (nI (zRu tb n 48 57 y)))) H locs := hw
            refine lv_aload_n hx hb dX2_advance_120 rfl (lv_at hl 1 rfl) ?_
            refine lv_aload_n hx hb dX2_advance_121 rfl (lv_at hl 1 rfl) ?_
            refine zcVwi (r := nI (zVm tb y (zEn tb n y - y))) hx hb hml hown hts hl.1 hK hE hA lkX2_38 (c_X2_valueOfToken x b tb (upd (upd (upd (upd (upd tq 2 (nI y)) 3 (nI y)) 1 0) 1 2) 3 (nI (zRu tb n 48 57 y))) y n rfl (congrArg nI (zEn_D hD).symm) hD hn) ⟨Nat.le_of_ble_eq_true rfl, Nat.le_of_ble_eq_true rfl⟩ ⟨Nat.zero_le _, Nat.zero_le _⟩ hw 0 1 rfl rfl rfl rfl (Nat.le_of_ble_eq_true rfl) dX2_advance_122 (fun H locs hw => ?_)
            have hw : zHw x A s.heap (zPW x b tb (upd (upd (upd (upd (upd tq 2 (nI y)) 3 (nI y)) 1 0) 1 2) 3 (nI (zRu tb n 48 57 y)))) H locs := hw
            refine pfX2_28 hx hb hown hts hK hw 0 rfl (Nat.le_of_ble_eq_true rfl) dX2_advance_125 (fun H locs hw => ?_)
            have hw : zHw x A s.heap (zPW x b tb (upd (upd (upd (upd (upd (upd tq 2 (nI y)) 3 (nI y)) 1 0) 1 2) 3 (nI (zRu tb n 48 57 y))) 4 (nI (zVm tb y (zEn tb n y - y))))) H locs := hw
            refine lv_goto (tgt := 156) hx hb dX2_advance_128 (by decide) ?_
            exact zFG.vret hx hb hr hlocks hQ hw rfl dX2_advance_156 ⟨rfl, by
                subst hy0
                exact zPW5 htl (zTk_D hD).symm rfl (congrArg nI (zEn_D hD).symm) (if_pos hD).symm⟩
      · have hL : zLt tb n y := ⟨hyn, Int32.not_lt.mp c54, Int32.not_lt.mp c60⟩
        refine lv_aload_n hx hb dX2_advance_63 rfl (lv_at hl 1 rfl) ?_
        refine lv_iconst (v := 1) hx hb dX2_advance_64 (by decide) ?_
        refine pfX2_19 hx hb hown hts hK hw 0 rfl (Nat.le_of_ble_eq_true rfl) dX2_advance_65 (fun H locs hw => ?_)
        have hw : zHw x A s.heap (zPW x b tb (upd (upd (upd (upd tq 2 (nI y)) 3 (nI y)) 1 0) 1 1)) H locs := hw
        refine lv_aload_n hx hb dX2_advance_68 rfl (lv_at hl 1 rfl) ?_
        refine lv_aload_n hx hb dX2_advance_69 rfl (lv_at hl 1 rfl) ?_
        refine lv_aload_n hx hb dX2_advance_70 rfl (lv_at hl 1 rfl) ?_
        refine gfX2_22 hx hb hown hts hK hw 0 rfl rfl dX2_advance_71 ?_
        refine W.eq (g2 := F0 m 74 ls [.int (nI y), .ref (b 1), .ref (b 1)]) (by rfl) ?_
        refine lv_bipush (v := 97) hx hb dX2_advance_74 (by decide) ?_
        refine lv_bipush (v := 122) hx hb dX2_advance_76 (by decide) ?_
        refine zcVwi (r := nI (zRu tb n 97 122 y)) hx hb hml hown hts hl.1 hK hE hA lkX2_34 (c_X2_endOfRun x b tb (upd (upd (upd (upd tq 2 (nI y)) 3 (nI y)) 1 0) 1 1) y n 97 122 htl hn hy) ⟨Nat.le_of_ble_eq_true rfl, Nat.le_of_ble_eq_true rfl⟩ ⟨Nat.zero_le _, Nat.zero_le _⟩ hw 0 1 rfl rfl rfl rfl (Nat.le_of_ble_eq_true rfl) dX2_advance_78 (fun H locs hw => ?_)
        have hw : zHw x A s.heap (zPW x b tb (upd (upd (upd (upd tq 2 (nI y)) 3 (nI y)) 1 0) 1 1)) H locs := hw
        refine pfX2_25 hx hb hown hts hK hw 0 rfl (Nat.le_of_ble_eq_true rfl) dX2_advance_81 (fun H locs hw => ?_)
        have hw : zHw x A s.heap (zPW x b tb (upd (upd (upd (upd (upd tq 2 (nI y)) 3 (nI y)) 1 0) 1 1) 3 (nI (zRu tb n 97 122 y)))) H locs := hw
        refine lv_goto (tgt := 156) hx hb dX2_advance_84 (by decide) ?_
        exact zFG.vret hx hb hr hlocks hQ hw rfl dX2_advance_156 ⟨rfl, by
            subst hy0
            exact zPW5 htl (zTk_L hL).symm rfl (congrArg nI (zEn_L hL).symm) (if_neg (zLD hL)).symm⟩
  · have hyn : ¬ y < n := fun h => c37 (nI_lt h (by omega))
    exact zFG.vret hx hb hr hlocks hQ hw rfl dX2_advance_40 ⟨rfl, by
        subst hy0
        exact zPW5 htl (zTk_0 hyn).symm rfl (congrArg nI ((zEj_1 hyn).symm.trans (zEj_xN (fun h => hyn h.1) (fun h => hyn h.1))).symm) (if_neg (fun h => hyn h.1)).symm⟩

set_option maxHeartbeats 4000000 in
set_option maxRecDepth 100000 in
theorem c_X2_begin (x : zX) (b : Nat → Nat) (tb tq : Nat → Int32) (n : Nat) (htl : tq 0 = nI n) (hn : n ≤ 120) : zFF x mX2_begin 3 [.ref (b 1)] (zPW x b tb tq) none (zPW x b tb (zTp tb n (zRu tb n 32 32 0) (tq 4))) := by
  refine zFG.start RX2 cX2_begin 1 none rfl rfl (by decide +kernel) (Nat.le_of_ble_eq_true rfl) ?_
  intro p e s m ar below meth c ls A Q hx hb hr hml hown hts hlocks hK hE hA hQ hl hw
  have hl : lv_has ls 1 [(0, .ref (b 1))] := hl
  have hw : zHw x A s.heap (zPW x b tb tq) s.heap [] := hw
  refine lv_aload_n hx hb dX2_begin_0 rfl (lv_at hl 0 rfl) ?_
  refine lv_iconst (v := 0) hx hb dX2_begin_1 (by decide) ?_
  refine pfX2_25 hx hb hown hts hK hw 0 rfl (Nat.le_of_ble_eq_true rfl) dX2_begin_2 (fun H locs hw => ?_)
  have hw : zHw x A s.heap (zPW x b tb (upd tq 3 0)) H locs := hw
  refine lv_aload_n hx hb dX2_begin_5 rfl (lv_at hl 0 rfl) ?_
  refine zcVwv hx hb hml hown hts hl.1 hK hE hA lkX2_31 (c_X2_advance x b tb (upd tq 3 0) 0 n htl rfl hn (Nat.zero_le _)) ⟨Nat.le_of_ble_eq_true rfl, Nat.le_of_ble_eq_true rfl⟩ ⟨Nat.zero_le _, Nat.zero_le _⟩ hw 0 1 rfl rfl rfl rfl (Nat.le_of_ble_eq_true rfl) dX2_begin_6 (fun H locs hw => ?_)
  have hw : zHw x A s.heap (zPW x b tb (zTp tb n (zRu tb n 32 32 0) (tq 4))) H locs := hw
  exact zFG.vret hx hb hr hlocks hQ hw rfl dX2_begin_9 ⟨rfl, rfl⟩

set_option maxHeartbeats 4000000 in
set_option maxRecDepth 100000 in
theorem c_X2_passNumber_s (x : zX) (b : Nat → Nat) (tb : Nat → Int32) (n y : Nat) (v : Int32) (hn : n ≤ 120) (hy : y ≤ n) (most z : Nat) (hmo : most ≤ 9999) (hz : zNu tb n y most = some z) : zFF x mX2_passNumber 3 [.ref (b 1), .int (nI most)] (zPW x b tb (zTp tb n y v)) (some (.int (nI z))) (zPW x b tb (zTp tb n (zNx tb n y) (nI z))) := by
  have hd : zDg tb n y := zNu_d hz
  have hv : zVm tb y (zEn tb n y - y) = z := zNu_v' hz hmo
  have hzm := zNu_le hz
  refine zFG.start RX2 cX2_passNumber 3 (some .int) rfl rfl (by decide +kernel) (Nat.le_of_ble_eq_true rfl) ?_
  intro p e s m ar below meth c ls A Q hx hb hr hml hown hts hlocks hK hE hA hQ hl hw
  have hl : lv_has ls 3 [(0, .ref (b 1)), (1, .int (nI most))] := hl
  have hw : zHw x A s.heap (zPW x b tb (zTp tb n y v)) s.heap [] := hw
  refine lv_aload_n hx hb dX2_passNumber_0 rfl (lv_at hl 0 rfl) ?_
  refine gfX2_19 hx hb hown hts hK hw 0 rfl rfl dX2_passNumber_1 ?_
  refine W.eq (g2 := F0 m 4 ls [.int 2]) (by rw [show zTp tb n y v 1 = 2 from zTk_D hd]) ?_
  refine lv_iconst (v := 2) hx hb dX2_passNumber_4 (by decide) ?_
  refine lv_icmp_ne (tgt := 16) hx hb dX2_passNumber_5 (by decide) (fun c5 => absurd c5 (by decide)) (fun c5 => ?_)
  refine lv_aload_n hx hb dX2_passNumber_8 rfl (lv_at hl 0 rfl) ?_
  refine gfX2_28 hx hb hown hts hK hw 0 rfl rfl dX2_passNumber_9 ?_
  refine W.eq (g2 := F0 m 12 ls [.int (nI z)]) (by rw [show zTp tb n y v 4 = nI z from (if_pos hd).trans (congrArg nI hv)]) ?_
  refine lv_iload_n hx hb dX2_passNumber_12 rfl (lv_at hl 1 rfl) ?_
  refine lv_icmp_le (tgt := 18) hx hb dX2_passNumber_13 (by decide) (fun c13 => ?_) (fun c13 => absurd (nI_le hzm (by omega)) c13)
  refine lv_aload_n hx hb dX2_passNumber_18 rfl (lv_at hl 0 rfl) ?_
  refine gfX2_28 hx hb hown hts hK hw 0 rfl rfl dX2_passNumber_19 ?_
  refine W.eq (g2 := F0 m 22 ls [.int (nI z)]) (by rw [show zTp tb n y v 4 = nI z from (if_pos hd).trans (congrArg nI hv)]) ?_
  refine lv_istore_n (lv' := [(2, .int (nI z)), (0, .ref (b 1)), (1, .int (nI most))]) hx hb dX2_passNumber_22 rfl hl (by decide) rfl (fun ls hl => ?_)
  refine lv_aload_n hx hb dX2_passNumber_23 rfl (lv_at hl 1 rfl) ?_
  refine zcVwv hx hb hml hown hts hl.1 hK hE hA lkX2_31 (c_X2_advance x b tb (zTp tb n y v) (zEn tb n y) n rfl rfl hn (zEn_le hy)) ⟨Nat.le_of_ble_eq_true rfl, Nat.le_of_ble_eq_true rfl⟩ ⟨Nat.zero_le _, Nat.zero_le _⟩ hw 0 1 rfl rfl rfl rfl (Nat.le_of_ble_eq_true rfl) dX2_passNumber_24 (fun H locs hw => ?_)
  have hw : zHw x A s.heap (zPW x b tb (zTp tb n (zNx tb n y) (nI z))) H locs := (by rw [show zTp tb n y v 4 = nI z from (if_pos hd).trans (congrArg nI hv)] at hw; exact hw)
  refine lv_iload_n hx hb dX2_passNumber_27 rfl (lv_at hl 0 rfl) ?_
  exact zFG.iret hx hb hr hlocks hQ hw rfl dX2_passNumber_28 ⟨rfl, rfl⟩

set_option maxHeartbeats 4000000 in
set_option maxRecDepth 100000 in
theorem c_X2_passNumber_n (x : zX) (b : Nat → Nat) (tb : Nat → Int32) (n y : Nat) (v : Int32) (hn : n ≤ 120) (hy : y ≤ n) (most : Nat) (hmo : most ≤ 9999) (hz : zNu tb n y most = none) : zFF x mX2_passNumber 3 [.ref (b 1), .int (nI most)] (zPW x b tb (zTp tb n y v)) (some (.int (-1))) (zPW x b tb (zTp tb n y v)) := by
  refine zFG.start RX2 cX2_passNumber 3 (some .int) rfl rfl (by decide +kernel) (Nat.le_of_ble_eq_true rfl) ?_
  intro p e s m ar below meth c ls A Q hx hb hr hml hown hts hlocks hK hE hA hQ hl hw
  have hl : lv_has ls 3 [(0, .ref (b 1)), (1, .int (nI most))] := hl
  have hw : zHw x A s.heap (zPW x b tb (zTp tb n y v)) s.heap [] := hw
  rcases Decidable.em (zDg tb n y) with hd | hd
  · refine lv_aload_n hx hb dX2_passNumber_0 rfl (lv_at hl 0 rfl) ?_
    refine gfX2_19 hx hb hown hts hK hw 0 rfl rfl dX2_passNumber_1 ?_
    refine W.eq (g2 := F0 m 4 ls [.int 2]) (by rw [show zTp tb n y v 1 = 2 from zTk_D hd]) ?_
    refine lv_iconst (v := 2) hx hb dX2_passNumber_4 (by decide) ?_
    refine lv_icmp_ne (tgt := 16) hx hb dX2_passNumber_5 (by decide) (fun c5 => absurd c5 (by decide)) (fun c5 => ?_)
    refine lv_aload_n hx hb dX2_passNumber_8 rfl (lv_at hl 0 rfl) ?_
    refine gfX2_28 hx hb hown hts hK hw 0 rfl rfl dX2_passNumber_9 ?_
    refine W.eq (g2 := F0 m 12 ls [.int (nI (zVm tb y (zEn tb n y - y)))]) (by rw [show zTp tb n y v 4 = _ from if_pos hd]) ?_
    refine lv_iload_n hx hb dX2_passNumber_12 rfl (lv_at hl 1 rfl) ?_
    refine lv_icmp_le (tgt := 18) hx hb dX2_passNumber_13 (by decide) (fun c13 => absurd c13 (fun h => zNu_n' hz hd hmo (by have hq := zVm_b hd; exact (nI_leI (by omega) (by omega)).mp h))) (fun c13 => ?_)
    refine lv_iconst (v := (-1)) hx hb dX2_passNumber_16 (by decide) ?_
    exact zFG.iret hx hb hr hlocks hQ hw rfl dX2_passNumber_17 ⟨rfl, rfl⟩
  · refine lv_aload_n hx hb dX2_passNumber_0 rfl (lv_at hl 0 rfl) ?_
    refine gfX2_19 hx hb hown hts hK hw 0 rfl rfl dX2_passNumber_1 ?_
    refine lv_iconst (v := 2) hx hb dX2_passNumber_4 (by decide) ?_
    refine lv_icmp_ne (tgt := 16) hx hb dX2_passNumber_5 (by decide) (fun c5 => ?_) (fun c5 => absurd c5 (fun h => hd (zTk_is2.mp h)))
    refine lv_iconst (v := (-1)) hx hb dX2_passNumber_16 (by decide) ?_
    exact zFG.iret hx hb hr hlocks hQ hw rfl dX2_passNumber_17 ⟨rfl, rfl⟩
