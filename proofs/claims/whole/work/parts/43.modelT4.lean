set_option maxHeartbeats 4000000 in
set_option maxRecDepth 100000 in
theorem c_X6_text (x : zX) (a : Nat → Nat) (q : Nat → Int32) (g : zT) (nu : Nat → Nat → Int64) (S : zT) (n : Nat) (hn1 : q 1 = nI n) (hn : n ≤ 120) (hI : zInv S) : zFG x mX6_text 8 [.ref (a 0)] (zMW x a q g nu (zflat S)) (fun v' u' => v' = some (.int (zm_text (g 6) n S).1) ∧ ∃ (q2 f3 : Nat → Int32), q2 0 = q 0 ∧ q2 1 = 0 ∧ u' = zMW x a q2 (zV g 3 f3) nu (zflat (zm_text (g 6) n S).2)) := by
  refine zFG.start RX6 cX6_text 2 (some .int) rfl rfl (by decide +kernel) (Nat.le_of_ble_eq_true rfl) ?_
  intro p e s m ar below meth c ls A Q hx hb hr hml hown hts hlocks hK hE hA hQ hl hw
  have hl : lv_has ls 2 [(0, .ref (a 0))] := hl
  have hw : zHw x A s.heap (zMW x a q g nu (zflat S)) s.heap [] := hw
  refine lv_aload_n hx hb dX6_text_0 rfl (lv_at hl 0 rfl) ?_
  refine zcVwv hx hb hml hown hts hl.1 hK hE hA lkX6_284 (c_X6_saves x a q g nu (zflat S)) ⟨Nat.le_of_ble_eq_true rfl, Nat.le_of_ble_eq_true rfl⟩ ⟨Nat.zero_le _, Nat.zero_le _⟩ hw 0 4 rfl rfl rfl rfl (Nat.le_of_ble_eq_true rfl) dX6_text_1 (fun H locs hw => ?_)
  have hw : zHw x A s.heap (zMW x a q (zV g 3 (zflat S)) nu (zflat S)) H locs := hw
  refine lv_aload_n hx hb dX6_text_4 rfl (lv_at hl 0 rfl) ?_
  refine lv_iconst (v := 0) hx hb dX6_text_5 (by decide) ?_
  refine pfX6_210 hx hb hown hts hK hw 0 rfl (Nat.le_of_ble_eq_true rfl) ⟨by decide, by decide⟩ dX6_text_6 (fun H locs hw => ?_)
  have hw : zHw x A s.heap (zMW x a (upd q 5 0) (zV g 3 (zflat S)) nu (zflat S)) H locs := hw
  refine lv_aload_n hx hb dX6_text_9 rfl (lv_at hl 0 rfl) ?_
  refine lv_iconst (v := 0) hx hb dX6_text_10 (by decide) ?_
  refine pfX6_195 hx hb hown hts hK hw 0 rfl (Nat.le_of_ble_eq_true rfl) dX6_text_11 (fun H locs hw => ?_)
  have hw : zHw x A s.heap (zMW x a (upd (upd q 5 0) 3 0) (zV g 3 (zflat S)) nu (zflat S)) H locs := hw
  refine lv_aload_n hx hb dX6_text_14 rfl (lv_at hl 0 rfl) ?_
  refine zcVwv hx hb hml hown hts hl.1 hK hE hA lkX6_214 (c_X6_token x a (upd (upd q 5 0) 3 0) (zV g 3 (zflat S)) nu (zflat S) 0 n hn1 rfl (Nat.zero_le _) hn) ⟨Nat.le_of_ble_eq_true rfl, Nat.le_of_ble_eq_true rfl⟩ ⟨Nat.zero_le _, Nat.zero_le _⟩ hw 0 4 rfl rfl rfl rfl (Nat.le_of_ble_eq_true rfl) dX6_text_15 (fun H locs hw => ?_)
  have hw : zHw x A s.heap (zMW x a (zTq (g 6) n (zRu (g 6) n 32 32 0) (q 0) (q 4) 0) (zV g 3 (zflat S)) nu (zflat S)) H locs := hw
  refine lv_iconst (v := 1) hx hb dX6_text_18 (by decide) ?_
  refine lv_istore_n (lv' := [(1, .int 1), (0, .ref (a 0))]) hx hb dX6_text_19 rfl hl (by decide) rfl (fun ls hl => ?_)
  have hz0 := @zIt_i (g 6) n (zRu (g 6) n 32 32 0) S (zRu_le (Nat.zero_le n))
  have hz2 := fun T zz h => @zIt_o (g 6) n (zRu (g 6) n 32 32 0) S T hI (zRu_le (Nat.zero_le n)) zz h
  rcases hz : zIt (g 6) n (zRu (g 6) n 32 32 0) S with z1 | ⟨y1, S1⟩
  · refine lv_aload_n hx hb dX6_text_20 rfl (lv_at hl 1 rfl) ?_
    refine zcVw hx hb hml hown hts hl.1 hK hE hA lkX6_287 (c_X6_item x a (zV g 3 (zflat S)) nu S n (zRu (g 6) n 32 32 0) (q 0) (q 4) hn (zRu_le (Nat.zero_le n)) hI) ⟨Nat.le_of_ble_eq_true rfl, Nat.le_of_ble_eq_true rfl⟩ ⟨Nat.zero_le _, Nat.zero_le _⟩ hw 0 4 rfl rfl rfl rfl (Nat.le_of_ble_eq_true rfl) dX6_text_21 (fun vv uu H locs hp hw => ?_)
    obtain ⟨rfl, v3, T3, hp2⟩ := hp
    rw [show (zV g 3 (zflat S)) 6 = g 6 from rfl, hz] at hp2
    subst hp2
    refine W.eq (g2 := F0 m 24 ls []) rfl ?_
    have hw : zHw x A s.heap (zMW x a (zTq (g 6) n z1 (q 0) v3 1) (zV g 3 (zflat S)) nu (zflat T3)) H locs := hw
    refine lv_aload_n hx hb dX6_text_24 rfl (lv_at hl 1 rfl) ?_
    refine gfX6_210 hx hb hown hts hK hw 0 rfl rfl dX6_text_25 ?_
    refine W.eq (g2 := F0 m 28 ls [.int 1]) (by rfl) ?_
    refine lv_if_ne (tgt := 59) hx hb dX6_text_28 (by decide) (fun c28 => ?_) (fun c28 => absurd c28 (by decide))
    have hT : zTx (g 6) n 121 1 (zRu (g 6) n 32 32 0) S = (-1 - nI z1, none) := zTx_i hz
    refine lv_aload_n hx hb dX6_text_59 rfl (lv_at hl 1 rfl) ?_
    refine lv_aload_n hx hb dX6_text_60 rfl (lv_at hl 1 rfl) ?_
    refine gfX6_210 hx hb hown hts hK hw 0 rfl rfl dX6_text_61 ?_
    refine W.eq (g2 := F0 m 64 ls [.int 1, .ref (a 0)]) (by rfl) ?_
    refine lv_if_ne (tgt := 78) hx hb dX6_text_64 (by decide) (fun c64 => ?_) (fun c64 => absurd c64 (by decide))
    refine lv_iconst (v := 1) hx hb dX6_text_78 (by decide) ?_
    refine lv_goto (tgt := 83) hx hb dX6_text_79 (by decide) ?_
    refine pfX6_210 hx hb hown hts hK hw 0 rfl (Nat.le_of_ble_eq_true rfl) ⟨by decide, by decide⟩ dX6_text_83 (fun H locs hw => ?_)
    have hw : zHw x A s.heap (zMW x a (upd (zTq (g 6) n z1 (q 0) v3 1) 5 1) (zV g 3 (zflat S)) nu (zflat T3)) H locs := hw
    refine lv_aload_n hx hb dX6_text_86 rfl (lv_at hl 1 rfl) ?_
    refine gfX6_210 hx hb hown hts hK hw 0 rfl rfl dX6_text_87 ?_
    refine W.eq (g2 := F0 m 90 ls [.int 1]) (by rfl) ?_
    refine lv_if_eq (tgt := 97) hx hb dX6_text_90 (by decide) (fun c90 => absurd c90 (by decide)) (fun c90 => ?_)
    refine lv_aload_n hx hb dX6_text_93 rfl (lv_at hl 1 rfl) ?_
    refine zcVwv hx hb hml hown hts hl.1 hK hE hA lkX6_290 (c_X6_putsBack x a (upd (zTq (g 6) n z1 (q 0) v3 1) 5 1) (zV g 3 (zflat S)) nu (zflat T3)) ⟨Nat.le_of_ble_eq_true rfl, Nat.le_of_ble_eq_true rfl⟩ ⟨Nat.zero_le _, Nat.zero_le _⟩ hw 0 4 rfl rfl rfl rfl (Nat.le_of_ble_eq_true rfl) dX6_text_94 (fun H locs hw => ?_)
    have hw : zHw x A s.heap (zMW x a (upd (zTq (g 6) n z1 (q 0) v3 1) 5 1) (zV g 3 (zflat S)) nu (zflat S)) H locs := hw
    refine lv_aload_n hx hb dX6_text_97 rfl (lv_at hl 1 rfl) ?_
    refine lv_iconst (v := 0) hx hb dX6_text_98 (by decide) ?_
    refine pfX6_183 hx hb hown hts hK hw 0 rfl (Nat.le_of_ble_eq_true rfl) dX6_text_99 (fun H locs hw => ?_)
    have hw : zHw x A s.heap (zMW x a (upd (upd (zTq (g 6) n z1 (q 0) v3 1) 5 1) 1 0) (zV g 3 (zflat S)) nu (zflat S)) H locs := hw
    refine lv_aload_n hx hb dX6_text_102 rfl (lv_at hl 1 rfl) ?_
    refine gfX6_210 hx hb hown hts hK hw 0 rfl rfl dX6_text_103 ?_
    refine W.eq (g2 := F0 m 106 ls [.int 1]) (by rfl) ?_
    refine lv_if_eq (tgt := 118) hx hb dX6_text_106 (by decide) (fun c106 => absurd c106 (by decide)) (fun c106 => ?_)
    refine lv_iconst (v := (-1)) hx hb dX6_text_109 (by decide) ?_
    refine lv_aload_n hx hb dX6_text_110 rfl (lv_at hl 1 rfl) ?_
    refine gfX6_198 hx hb hown hts hK hw 0 rfl rfl dX6_text_111 ?_
    refine W.eq (g2 := F0 m 114 ls [.int (nI z1), .int (-1)]) (by rfl) ?_
    refine lv_isub hx hb dX6_text_114 ?_
    refine lv_goto (tgt := 119) hx hb dX6_text_115 (by decide) ?_
    exact zFG.iret hx hb hr hlocks hQ hw rfl dX6_text_119 ⟨zsi (by unfold zm_text; rw [hT]), upd (upd (zTq (g 6) n z1 (q 0) v3 1) 5 1) 1 0, zflat S, rfl, rfl, by unfold zm_text; rw [hT]; rfl⟩
  · obtain ⟨hy1, hyy, hI1⟩ := hz2 _ _ hz
    refine lv_aload_n hx hb dX6_text_20 rfl (lv_at hl 1 rfl) ?_
    refine zcVw hx hb hml hown hts hl.1 hK hE hA lkX6_287 (c_X6_item x a (zV g 3 (zflat S)) nu S n (zRu (g 6) n 32 32 0) (q 0) (q 4) hn (zRu_le (Nat.zero_le n)) hI) ⟨Nat.le_of_ble_eq_true rfl, Nat.le_of_ble_eq_true rfl⟩ ⟨Nat.zero_le _, Nat.zero_le _⟩ hw 0 4 rfl rfl rfl rfl (Nat.le_of_ble_eq_true rfl) dX6_text_21 (fun vv uu H locs hp hw => ?_)
    obtain ⟨rfl, v3, T3, hp2⟩ := hp
    rw [show (zV g 3 (zflat S)) 6 = g 6 from rfl, hz] at hp2
    subst hp2
    refine W.eq (g2 := F0 m 24 ls []) rfl ?_
    have hw : zHw x A s.heap (zMW x a (zTq (g 6) n y1 (q 0) v3 0) (zV g 3 (zflat S)) nu (zflat S1)) H locs := hw
    have loop24 : ∀ (dd : Nat) (fu : Nat) (k : Nat) (z : Nat) (U : zT) (v : Int32), fu < dd → (hzn : z ≤ n) → (hU : zInv U) → (hf : n - z ≤ fu) → (e1 : zTe (g 6) n fu k z U = zTx (g 6) n 121 1 (zRu (g 6) n 32 32 0) S) → ∀ (H : Heap) (locs : List Loc) (ls : Array Slot), zHw x A s.heap (zMW x a (zTq (g 6) n z (q 0) v 0) (zV g 3 (zflat S)) nu (zflat U)) H locs → lv_has ls 2 [(0, .ref (a 0)), (1, .int (nI k))] → W p x.1 e (zRM 8) s m ar below meth c H locs 0 0 Q (F0 m 24 ls []) := by
      intro dd
      induction dd with
      | zero => intro fu k z U v hm; exact absurd hm (Nat.not_lt_zero _)
      | succ dd ih24 =>
        intro fu k z U v hm hzn hU hf e1 H locs ls hw hl
        refine lv_aload_n hx hb dX6_text_24 rfl (lv_at hl 0 rfl) ?_
        refine gfX6_210 hx hb hown hts hK hw 0 rfl rfl dX6_text_25 ?_
        refine W.eq (g2 := F0 m 28 ls [.int 0]) (by rfl) ?_
        refine lv_if_ne (tgt := 59) hx hb dX6_text_28 (by decide) (fun c28 => absurd c28 (by decide)) (fun c28 => ?_)
        refine lv_aload_n hx hb dX6_text_31 rfl (lv_at hl 0 rfl) ?_
        refine lv_aload_n hx hb dX6_text_32 rfl (lv_at hl 0 rfl) ?_
        refine gfX6_198 hx hb hown hts hK hw 0 rfl rfl dX6_text_33 ?_
        refine W.eq (g2 := F0 m 36 ls [.int (nI z), .ref (a 0)]) (by rfl) ?_
        refine zcVwi (r := zBy (g 6) n z) hx hb hml hown hts hl.1 hK hE hA lkX6_201 (c_X6_byteAt x a (zTq (g 6) n z (q 0) v 0) (zV g 3 (zflat S)) nu (zflat U) z n rfl hn (by omega)) ⟨Nat.le_of_ble_eq_true rfl, Nat.le_of_ble_eq_true rfl⟩ ⟨Nat.zero_le _, Nat.zero_le _⟩ hw 0 4 rfl rfl rfl rfl (Nat.le_of_ble_eq_true rfl) dX6_text_36 (fun H locs hw => ?_)
        have hw : zHw x A s.heap (zMW x a (zTq (g 6) n z (q 0) v 0) (zV g 3 (zflat S)) nu (zflat U)) H locs := hw
        refine lv_bipush (v := 59) hx hb dX6_text_39 (by decide) ?_
        refine lv_icmp_ne (tgt := 59) hx hb dX6_text_41 (by decide) (fun c41 => ?_) (fun c41 => ?_)
        · have c41b : ¬ (z < n ∧ g 6 z = 59) := fun h => c41 (zBy_59.mpr h)
          refine lv_aload_n hx hb dX6_text_59 rfl (lv_at hl 0 rfl) ?_
          refine lv_aload_n hx hb dX6_text_60 rfl (lv_at hl 0 rfl) ?_
          refine gfX6_210 hx hb hown hts hK hw 0 rfl rfl dX6_text_61 ?_
          refine W.eq (g2 := F0 m 64 ls [.int 0, .ref (a 0)]) (by rfl) ?_
          refine lv_if_ne (tgt := 78) hx hb dX6_text_64 (by decide) (fun c64 => absurd c64 (by decide)) (fun c64 => ?_)
          refine lv_aload_n hx hb dX6_text_67 rfl (lv_at hl 0 rfl) ?_
          refine gfX6_198 hx hb hown hts hK hw 0 rfl rfl dX6_text_68 ?_
          refine W.eq (g2 := F0 m 71 ls [.int (nI z), .ref (a 0)]) (by rfl) ?_
          refine lv_aload_n hx hb dX6_text_71 rfl (lv_at hl 0 rfl) ?_
          refine gfX6_183 hx hb hown hts hK hw 0 rfl rfl dX6_text_72 ?_
          refine W.eq (g2 := F0 m 75 ls [.int (nI n), .int (nI z), .ref (a 0)]) (by rfl) ?_
          refine lv_icmp_ge (tgt := 82) hx hb dX6_text_75 (by decide) (fun c75 => ?_) (fun c75 => ?_)
          · have hzl : ¬ z < n := fun h => absurd c75 (nI_ge h (by omega))
            have hT : zTx (g 6) n 121 1 (zRu (g 6) n 32 32 0) S = (nI k, some U) := e1.symm.trans ((if_neg c41b).trans (if_neg hzl))
            refine lv_iconst (v := 0) hx hb dX6_text_82 (by decide) ?_
            refine pfX6_210 hx hb hown hts hK hw 0 rfl (Nat.le_of_ble_eq_true rfl) ⟨by decide, by decide⟩ dX6_text_83 (fun H locs hw => ?_)
            have hw : zHw x A s.heap (zMW x a (upd (zTq (g 6) n z (q 0) v 0) 5 0) (zV g 3 (zflat S)) nu (zflat U)) H locs := hw
            refine lv_aload_n hx hb dX6_text_86 rfl (lv_at hl 0 rfl) ?_
            refine gfX6_210 hx hb hown hts hK hw 0 rfl rfl dX6_text_87 ?_
            refine W.eq (g2 := F0 m 90 ls [.int 0]) (by rfl) ?_
            refine lv_if_eq (tgt := 97) hx hb dX6_text_90 (by decide) (fun c90 => ?_) (fun c90 => absurd (by decide) c90)
            refine lv_aload_n hx hb dX6_text_97 rfl (lv_at hl 0 rfl) ?_
            refine lv_iconst (v := 0) hx hb dX6_text_98 (by decide) ?_
            refine pfX6_183 hx hb hown hts hK hw 0 rfl (Nat.le_of_ble_eq_true rfl) dX6_text_99 (fun H locs hw => ?_)
            have hw : zHw x A s.heap (zMW x a (upd (upd (zTq (g 6) n z (q 0) v 0) 5 0) 1 0) (zV g 3 (zflat S)) nu (zflat U)) H locs := hw
            refine lv_aload_n hx hb dX6_text_102 rfl (lv_at hl 0 rfl) ?_
            refine gfX6_210 hx hb hown hts hK hw 0 rfl rfl dX6_text_103 ?_
            refine W.eq (g2 := F0 m 106 ls [.int 0]) (by rfl) ?_
            refine lv_if_eq (tgt := 118) hx hb dX6_text_106 (by decide) (fun c106 => ?_) (fun c106 => absurd (by decide) c106)
            refine lv_iload_n hx hb dX6_text_118 rfl (lv_at hl 1 rfl) ?_
            exact zFG.iret hx hb hr hlocks hQ hw rfl dX6_text_119 ⟨zsi (by unfold zm_text; rw [hT]), upd (upd (zTq (g 6) n z (q 0) v 0) 5 0) 1 0, zflat S, rfl, rfl, by unfold zm_text; rw [hT]; rfl⟩
          · have hzl : z < n := Nat.lt_of_not_le (fun h => c75 (nI_le h (by omega)))
            have hT : zTx (g 6) n 121 1 (zRu (g 6) n 32 32 0) S = (-1 - nI z, none) := e1.symm.trans ((if_neg c41b).trans (if_pos hzl))
            refine lv_iconst (v := 1) hx hb dX6_text_78 (by decide) ?_
            refine lv_goto (tgt := 83) hx hb dX6_text_79 (by decide) ?_
            refine pfX6_210 hx hb hown hts hK hw 0 rfl (Nat.le_of_ble_eq_true rfl) ⟨by decide, by decide⟩ dX6_text_83 (fun H locs hw => ?_)
            have hw : zHw x A s.heap (zMW x a (upd (zTq (g 6) n z (q 0) v 0) 5 1) (zV g 3 (zflat S)) nu (zflat U)) H locs := hw
            refine lv_aload_n hx hb dX6_text_86 rfl (lv_at hl 0 rfl) ?_
            refine gfX6_210 hx hb hown hts hK hw 0 rfl rfl dX6_text_87 ?_
            refine W.eq (g2 := F0 m 90 ls [.int 1]) (by rfl) ?_
            refine lv_if_eq (tgt := 97) hx hb dX6_text_90 (by decide) (fun c90 => absurd c90 (by decide)) (fun c90 => ?_)
            refine lv_aload_n hx hb dX6_text_93 rfl (lv_at hl 0 rfl) ?_
            refine zcVwv hx hb hml hown hts hl.1 hK hE hA lkX6_290 (c_X6_putsBack x a (upd (zTq (g 6) n z (q 0) v 0) 5 1) (zV g 3 (zflat S)) nu (zflat U)) ⟨Nat.le_of_ble_eq_true rfl, Nat.le_of_ble_eq_true rfl⟩ ⟨Nat.zero_le _, Nat.zero_le _⟩ hw 0 4 rfl rfl rfl rfl (Nat.le_of_ble_eq_true rfl) dX6_text_94 (fun H locs hw => ?_)
            have hw : zHw x A s.heap (zMW x a (upd (zTq (g 6) n z (q 0) v 0) 5 1) (zV g 3 (zflat S)) nu (zflat S)) H locs := hw
            refine lv_aload_n hx hb dX6_text_97 rfl (lv_at hl 0 rfl) ?_
            refine lv_iconst (v := 0) hx hb dX6_text_98 (by decide) ?_
            refine pfX6_183 hx hb hown hts hK hw 0 rfl (Nat.le_of_ble_eq_true rfl) dX6_text_99 (fun H locs hw => ?_)
            have hw : zHw x A s.heap (zMW x a (upd (upd (zTq (g 6) n z (q 0) v 0) 5 1) 1 0) (zV g 3 (zflat S)) nu (zflat S)) H locs := hw
            refine lv_aload_n hx hb dX6_text_102 rfl (lv_at hl 0 rfl) ?_
            refine gfX6_210 hx hb hown hts hK hw 0 rfl rfl dX6_text_103 ?_
            refine W.eq (g2 := F0 m 106 ls [.int 1]) (by rfl) ?_
            refine lv_if_eq (tgt := 118) hx hb dX6_text_106 (by decide) (fun c106 => absurd c106 (by decide)) (fun c106 => ?_)
            refine lv_iconst (v := (-1)) hx hb dX6_text_109 (by decide) ?_
            refine lv_aload_n hx hb dX6_text_110 rfl (lv_at hl 0 rfl) ?_
            refine gfX6_198 hx hb hown hts hK hw 0 rfl rfl dX6_text_111 ?_
            refine W.eq (g2 := F0 m 114 ls [.int (nI z), .int (-1)]) (by rfl) ?_
            refine lv_isub hx hb dX6_text_114 ?_
            refine lv_goto (tgt := 119) hx hb dX6_text_115 (by decide) ?_
            exact zFG.iret hx hb hr hlocks hQ hw rfl dX6_text_119 ⟨zsi (by unfold zm_text; rw [hT]), upd (upd (zTq (g 6) n z (q 0) v 0) 5 1) 1 0, zflat S, rfl, rfl, by unfold zm_text; rw [hT]; rfl⟩
        · have c41b := zBy_59.mp c41
          obtain ⟨fu, rfl⟩ : ∃ f2, fu = f2 + 1 := ⟨fu - 1, by omega⟩
          have hte : zTe (g 6) n (fu + 1) k z U = zTx (g 6) n (fu + 1) (k + 1) (zNx (g 6) n z) U := if_pos c41b
          refine lv_aload_n hx hb dX6_text_44 rfl (lv_at hl 0 rfl) ?_
          refine lv_iconst (v := 1) hx hb dX6_text_45 (by decide) ?_
          refine zcVwv hx hb hml hown hts hl.1 hK hE hA lkX6_224 (c_X6_must_t x a (zV g 3 (zflat S)) nu (zflat U) n z (q 0) v hn hzn) ⟨Nat.le_of_ble_eq_true rfl, Nat.le_of_ble_eq_true rfl⟩ ⟨Nat.zero_le _, Nat.zero_le _⟩ hw 0 4 rfl rfl rfl rfl (Nat.le_of_ble_eq_true rfl) dX6_text_46 (fun H locs hw => ?_)
          have hw : zHw x A s.heap (zMW x a (zTq (g 6) n (zNx (g 6) n z) (q 0) v 0) (zV g 3 (zflat S)) nu (zflat U)) H locs := hw
          have hz0 := @zIt_i (g 6) n (zNx (g 6) n z) U (zNx_le hzn)
          have hz2 := fun T zz h => @zIt_o (g 6) n (zNx (g 6) n z) U T hU (zNx_le hzn) zz h
          rcases hz : zIt (g 6) n (zNx (g 6) n z) U with z1 | ⟨y1, S1⟩
          · refine lv_aload_n hx hb dX6_text_49 rfl (lv_at hl 0 rfl) ?_
            refine zcVw hx hb hml hown hts hl.1 hK hE hA lkX6_287 (c_X6_item x a (zV g 3 (zflat S)) nu U n (zNx (g 6) n z) (q 0) v hn (zNx_le hzn) hU) ⟨Nat.le_of_ble_eq_true rfl, Nat.le_of_ble_eq_true rfl⟩ ⟨Nat.zero_le _, Nat.zero_le _⟩ hw 0 4 rfl rfl rfl rfl (Nat.le_of_ble_eq_true rfl) dX6_text_50 (fun vv uu H locs hp hw => ?_)
            obtain ⟨rfl, v3, T3, hp2⟩ := hp
            rw [show (zV g 3 (zflat S)) 6 = g 6 from rfl, hz] at hp2
            subst hp2
            refine W.eq (g2 := F0 m 53 ls []) rfl ?_
            have hw : zHw x A s.heap (zMW x a (zTq (g 6) n z1 (q 0) v3 1) (zV g 3 (zflat S)) nu (zflat T3)) H locs := hw
            refine lv_iinc (v := nI (k + 1)) (lv' := [(1, .int (nI (k + 1))), (0, .ref (a 0))]) hx hb dX6_text_53 hl (k := 1) rfl (nI_1 k) (by decide) rfl (fun ls hl => ?_)
            refine lv_goto (tgt := 24) hx hb dX6_text_56 (by decide) ?_
            refine lv_aload_n hx hb dX6_text_24 rfl (lv_at hl 1 rfl) ?_
            refine gfX6_210 hx hb hown hts hK hw 0 rfl rfl dX6_text_25 ?_
            refine W.eq (g2 := F0 m 28 ls [.int 1]) (by rfl) ?_
            refine lv_if_ne (tgt := 59) hx hb dX6_text_28 (by decide) (fun c28 => ?_) (fun c28 => absurd c28 (by decide))
            have hT : zTx (g 6) n 121 1 (zRu (g 6) n 32 32 0) S = (-1 - nI z1, none) := e1.symm.trans (hte.trans (zTx_i hz))
            refine lv_aload_n hx hb dX6_text_59 rfl (lv_at hl 1 rfl) ?_
            refine lv_aload_n hx hb dX6_text_60 rfl (lv_at hl 1 rfl) ?_
            refine gfX6_210 hx hb hown hts hK hw 0 rfl rfl dX6_text_61 ?_
            refine W.eq (g2 := F0 m 64 ls [.int 1, .ref (a 0)]) (by rfl) ?_
            refine lv_if_ne (tgt := 78) hx hb dX6_text_64 (by decide) (fun c64 => ?_) (fun c64 => absurd c64 (by decide))
            refine lv_iconst (v := 1) hx hb dX6_text_78 (by decide) ?_
            refine lv_goto (tgt := 83) hx hb dX6_text_79 (by decide) ?_
            refine pfX6_210 hx hb hown hts hK hw 0 rfl (Nat.le_of_ble_eq_true rfl) ⟨by decide, by decide⟩ dX6_text_83 (fun H locs hw => ?_)
            have hw : zHw x A s.heap (zMW x a (upd (zTq (g 6) n z1 (q 0) v3 1) 5 1) (zV g 3 (zflat S)) nu (zflat T3)) H locs := hw
            refine lv_aload_n hx hb dX6_text_86 rfl (lv_at hl 1 rfl) ?_
            refine gfX6_210 hx hb hown hts hK hw 0 rfl rfl dX6_text_87 ?_
            refine W.eq (g2 := F0 m 90 ls [.int 1]) (by rfl) ?_
            refine lv_if_eq (tgt := 97) hx hb dX6_text_90 (by decide) (fun c90 => absurd c90 (by decide)) (fun c90 => ?_)
            refine lv_aload_n hx hb dX6_text_93 rfl (lv_at hl 1 rfl) ?_
            refine zcVwv hx hb hml hown hts hl.1 hK hE hA lkX6_290 (c_X6_putsBack x a (upd (zTq (g 6) n z1 (q 0) v3 1) 5 1) (zV g 3 (zflat S)) nu (zflat T3)) ⟨Nat.le_of_ble_eq_true rfl, Nat.le_of_ble_eq_true rfl⟩ ⟨Nat.zero_le _, Nat.zero_le _⟩ hw 0 4 rfl rfl rfl rfl (Nat.le_of_ble_eq_true rfl) dX6_text_94 (fun H locs hw => ?_)
            have hw : zHw x A s.heap (zMW x a (upd (zTq (g 6) n z1 (q 0) v3 1) 5 1) (zV g 3 (zflat S)) nu (zflat S)) H locs := hw
            refine lv_aload_n hx hb dX6_text_97 rfl (lv_at hl 1 rfl) ?_
            refine lv_iconst (v := 0) hx hb dX6_text_98 (by decide) ?_
            refine pfX6_183 hx hb hown hts hK hw 0 rfl (Nat.le_of_ble_eq_true rfl) dX6_text_99 (fun H locs hw => ?_)
            have hw : zHw x A s.heap (zMW x a (upd (upd (zTq (g 6) n z1 (q 0) v3 1) 5 1) 1 0) (zV g 3 (zflat S)) nu (zflat S)) H locs := hw
            refine lv_aload_n hx hb dX6_text_102 rfl (lv_at hl 1 rfl) ?_
            refine gfX6_210 hx hb hown hts hK hw 0 rfl rfl dX6_text_103 ?_
            refine W.eq (g2 := F0 m 106 ls [.int 1]) (by rfl) ?_
            refine lv_if_eq (tgt := 118) hx hb dX6_text_106 (by decide) (fun c106 => absurd c106 (by decide)) (fun c106 => ?_)
            refine lv_iconst (v := (-1)) hx hb dX6_text_109 (by decide) ?_
            refine lv_aload_n hx hb dX6_text_110 rfl (lv_at hl 1 rfl) ?_
            refine gfX6_198 hx hb hown hts hK hw 0 rfl rfl dX6_text_111 ?_
            refine W.eq (g2 := F0 m 114 ls [.int (nI z1), .int (-1)]) (by rfl) ?_
            refine lv_isub hx hb dX6_text_114 ?_
            refine lv_goto (tgt := 119) hx hb dX6_text_115 (by decide) ?_
            exact zFG.iret hx hb hr hlocks hQ hw rfl dX6_text_119 ⟨zsi (by unfold zm_text; rw [hT]), upd (upd (zTq (g 6) n z1 (q 0) v3 1) 5 1) 1 0, zflat S, rfl, rfl, by unfold zm_text; rw [hT]; rfl⟩
          · obtain ⟨hy1, hyy, hI1⟩ := hz2 _ _ hz
            refine lv_aload_n hx hb dX6_text_49 rfl (lv_at hl 0 rfl) ?_
            refine zcVw hx hb hml hown hts hl.1 hK hE hA lkX6_287 (c_X6_item x a (zV g 3 (zflat S)) nu U n (zNx (g 6) n z) (q 0) v hn (zNx_le hzn) hU) ⟨Nat.le_of_ble_eq_true rfl, Nat.le_of_ble_eq_true rfl⟩ ⟨Nat.zero_le _, Nat.zero_le _⟩ hw 0 4 rfl rfl rfl rfl (Nat.le_of_ble_eq_true rfl) dX6_text_50 (fun vv uu H locs hp hw => ?_)
            obtain ⟨rfl, v3, T3, hp2⟩ := hp
            rw [show (zV g 3 (zflat S)) 6 = g 6 from rfl, hz] at hp2
            subst hp2
            refine W.eq (g2 := F0 m 53 ls []) rfl ?_
            have hw : zHw x A s.heap (zMW x a (zTq (g 6) n y1 (q 0) v3 0) (zV g 3 (zflat S)) nu (zflat S1)) H locs := hw
            refine lv_iinc (v := nI (k + 1)) (lv' := [(1, .int (nI (k + 1))), (0, .ref (a 0))]) hx hb dX6_text_53 hl (k := 1) rfl (nI_1 k) (by decide) rfl (fun ls hl => ?_)
            refine lv_goto (tgt := 24) hx hb dX6_text_56 (by decide) ?_
            exact ih24 fu (k + 1) y1 S1 v3 (by omega) hy1 hI1 (by have := zNx_gt (B := g 6) c41b.1; omega) ((zTx_o hz).symm.trans (hte.symm.trans e1)) _ _ _ hw (lv_sub hl [1, 0] rfl)
    exact loop24 (_ + 1) 120 1 y1 S1 v3 (Nat.lt_succ_self _) hy1 hI1 (by omega) ((zTx_o hz).symm) _ _ _ hw (lv_sub hl [1, 0] rfl)
