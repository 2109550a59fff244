set_option maxHeartbeats 4000000 in
set_option maxRecDepth 100000 in
theorem c_X6_isAhead (x : zX) (a : Nat → Nat) (q : Nat → Int32) (g : zT) (nu : Nat → Nat → Int64) (S : zT) (h o : Nat) (hh : h < 8) (ho : o < 8) (hrh : S 8 h = 0 ∨ S 8 h = 1) (hro : S 8 o = 0 ∨ S 8 o = 1) : zFF x mX6_isAhead 2 [.ref (a 0), .int (nI h), .int (nI o)] (zMW x a q g nu (zflat S)) (some (.int (zb (¬ zAh S o h)))) (zMW x a q g nu (zflat S)) := by
  refine zFG.start RX6 cX6_isAhead 4 (some .boolean) rfl rfl (by decide +kernel) (Nat.le_of_ble_eq_true rfl) ?_
  intro p e s m ar below meth c ls A Q hx hb hr hml hown hts hlocks hK hE hA hQ hl hw
  have hl : lv_has ls 4 [(0, .ref (a 0)), (1, .int (nI h)), (2, .int (nI o))] := hl
  have hw : zHw x A s.heap (zMW x a q g nu (zflat S)) s.heap [] := hw
  refine lv_aload_n hx hb dX6_isAhead_0 rfl (lv_at hl 0 rfl) ?_
  refine lv_iload_n hx hb dX6_isAhead_1 rfl (lv_at hl 1 rfl) ?_
  refine lv_iconst (v := 0) hx hb dX6_isAhead_2 (by decide) ?_
  refine zcVwi (r := S 3 h) hx hb hml hown hts hl.1 hK hE hA lkX6_74 (c_X6_its x a q g nu S h 0 (by omega) (by omega)) ⟨Nat.le_of_ble_eq_true rfl, Nat.le_of_ble_eq_true rfl⟩ ⟨Nat.zero_le _, Nat.zero_le _⟩ hw 0 4 rfl rfl rfl rfl (Nat.le_of_ble_eq_true rfl) dX6_isAhead_3 (fun H locs hw => ?_)
  have hw : zHw x A s.heap (zMW x a q g nu (zflat S)) H locs := hw
  refine lv_iconst (v := 4) hx hb dX6_isAhead_6 (by decide) ?_
  refine lv_icmp_ne (tgt := 14) hx hb dX6_isAhead_7 (by decide) (fun c7 => ?_) (fun c7 => ?_)
  · refine lv_iconst (v := 0) hx hb dX6_isAhead_14 (by decide) ?_
    refine lv_istore_n (lv' := [(3, .int 0), (0, .ref (a 0)), (1, .int (nI h)), (2, .int (nI o))]) hx hb dX6_isAhead_15 rfl hl (by decide) rfl (fun ls hl => ?_)
    refine lv_iload_n hx hb dX6_isAhead_16 rfl (lv_at hl 0 rfl) ?_
    refine lv_aload_n hx hb dX6_isAhead_17 rfl (lv_at hl 1 rfl) ?_
    refine lv_iload_n hx hb dX6_isAhead_18 rfl (lv_at hl 3 rfl) ?_
    refine lv_iconst (v := 0) hx hb dX6_isAhead_19 (by decide) ?_
    refine zcVwi (r := S 3 o) hx hb hml hown hts hl.1 hK hE hA lkX6_74 (c_X6_its x a q g nu S o 0 (by omega) (by omega)) ⟨Nat.le_of_ble_eq_true rfl, Nat.le_of_ble_eq_true rfl⟩ ⟨Nat.zero_le _, Nat.zero_le _⟩ hw 0 4 rfl rfl rfl rfl (Nat.le_of_ble_eq_true rfl) dX6_isAhead_20 (fun H locs hw => ?_)
    have hw : zHw x A s.heap (zMW x a q g nu (zflat S)) H locs := hw
    refine lv_iconst (v := 4) hx hb dX6_isAhead_23 (by decide) ?_
    refine lv_icmp_ne (tgt := 31) hx hb dX6_isAhead_24 (by decide) (fun c24 => ?_) (fun c24 => ?_)
    · refine lv_iconst (v := 0) hx hb dX6_isAhead_31 (by decide) ?_
      refine lv_icmp_eq (tgt := 37) hx hb dX6_isAhead_32 (by decide) (fun c32 => ?_) (fun c32 => absurd (rfl) c32)
      refine lv_aload_n hx hb dX6_isAhead_37 rfl (lv_at hl 1 rfl) ?_
      refine lv_iload_n hx hb dX6_isAhead_38 rfl (lv_at hl 2 rfl) ?_
      refine lv_iconst (v := 5) hx hb dX6_isAhead_39 (by decide) ?_
      refine zcVwi (r := S 8 h) hx hb hml hown hts hl.1 hK hE hA lkX6_74 (c_X6_its x a q g nu S h 5 (by omega) (by omega)) ⟨Nat.le_of_ble_eq_true rfl, Nat.le_of_ble_eq_true rfl⟩ ⟨Nat.zero_le _, Nat.zero_le _⟩ hw 0 4 rfl rfl rfl rfl (Nat.le_of_ble_eq_true rfl) dX6_isAhead_40 (fun H locs hw => ?_)
      have hw : zHw x A s.heap (zMW x a q g nu (zflat S)) H locs := hw
      refine lv_aload_n hx hb dX6_isAhead_43 rfl (lv_at hl 1 rfl) ?_
      refine lv_iload_n hx hb dX6_isAhead_44 rfl (lv_at hl 3 rfl) ?_
      refine lv_iconst (v := 5) hx hb dX6_isAhead_45 (by decide) ?_
      refine zcVwi (r := S 8 o) hx hb hml hown hts hl.1 hK hE hA lkX6_74 (c_X6_its x a q g nu S o 5 (by omega) (by omega)) ⟨Nat.le_of_ble_eq_true rfl, Nat.le_of_ble_eq_true rfl⟩ ⟨Nat.zero_le _, Nat.zero_le _⟩ hw 0 4 rfl rfl rfl rfl (Nat.le_of_ble_eq_true rfl) dX6_isAhead_46 (fun H locs hw => ?_)
      have hw : zHw x A s.heap (zMW x a q g nu (zflat S)) H locs := hw
      refine lv_icmp_eq (tgt := 68) hx hb dX6_isAhead_49 (by decide) (fun c49 => ?_) (fun c49 => ?_)
      · refine lv_aload_n hx hb dX6_isAhead_68 rfl (lv_at hl 1 rfl) ?_
        refine lv_iload_n hx hb dX6_isAhead_69 rfl (lv_at hl 2 rfl) ?_
        refine lv_iconst (v := 2) hx hb dX6_isAhead_70 (by decide) ?_
        refine zcVwi (r := S 5 h) hx hb hml hown hts hl.1 hK hE hA lkX6_74 (c_X6_its x a q g nu S h 2 (by omega) (by omega)) ⟨Nat.le_of_ble_eq_true rfl, Nat.le_of_ble_eq_true rfl⟩ ⟨Nat.zero_le _, Nat.zero_le _⟩ hw 0 4 rfl rfl rfl rfl (Nat.le_of_ble_eq_true rfl) dX6_isAhead_71 (fun H locs hw => ?_)
        have hw : zHw x A s.heap (zMW x a q g nu (zflat S)) H locs := hw
        refine lv_aload_n hx hb dX6_isAhead_74 rfl (lv_at hl 1 rfl) ?_
        refine lv_iload_n hx hb dX6_isAhead_75 rfl (lv_at hl 3 rfl) ?_
        refine lv_iconst (v := 2) hx hb dX6_isAhead_76 (by decide) ?_
        refine zcVwi (r := S 5 o) hx hb hml hown hts hl.1 hK hE hA lkX6_74 (c_X6_its x a q g nu S o 2 (by omega) (by omega)) ⟨Nat.le_of_ble_eq_true rfl, Nat.le_of_ble_eq_true rfl⟩ ⟨Nat.zero_le _, Nat.zero_le _⟩ hw 0 4 rfl rfl rfl rfl (Nat.le_of_ble_eq_true rfl) dX6_isAhead_77 (fun H locs hw => ?_)
        have hw : zHw x A s.heap (zMW x a q g nu (zflat S)) H locs := hw
        refine lv_icmp_lt (tgt := 87) hx hb dX6_isAhead_80 (by decide) (fun c80 => ?_) (fun c80 => ?_)
        · refine lv_iconst (v := 0) hx hb dX6_isAhead_87 (by decide) ?_
          exact zFG.zret hx hb hr hlocks hQ hw rfl dX6_isAhead_88 (by decide) ⟨zsi (by simp [zb, zAh, c7, c24, c49, c80]), rfl⟩
        · refine lv_iconst (v := 1) hx hb dX6_isAhead_83 (by decide) ?_
          refine lv_goto (tgt := 88) hx hb dX6_isAhead_84 (by decide) ?_
          exact zFG.zret hx hb hr hlocks hQ hw rfl dX6_isAhead_88 (by decide) ⟨zsi (by simp [zb, zAh, c7, c24, c49, c80]), rfl⟩
      · refine lv_aload_n hx hb dX6_isAhead_52 rfl (lv_at hl 1 rfl) ?_
        refine lv_iload_n hx hb dX6_isAhead_53 rfl (lv_at hl 2 rfl) ?_
        refine lv_iconst (v := 5) hx hb dX6_isAhead_54 (by decide) ?_
        refine zcVwi (r := S 8 h) hx hb hml hown hts hl.1 hK hE hA lkX6_74 (c_X6_its x a q g nu S h 5 (by omega) (by omega)) ⟨Nat.le_of_ble_eq_true rfl, Nat.le_of_ble_eq_true rfl⟩ ⟨Nat.zero_le _, Nat.zero_le _⟩ hw 0 4 rfl rfl rfl rfl (Nat.le_of_ble_eq_true rfl) dX6_isAhead_55 (fun H locs hw => ?_)
        have hw : zHw x A s.heap (zMW x a q g nu (zflat S)) H locs := hw
        refine lv_iconst (v := 1) hx hb dX6_isAhead_58 (by decide) ?_
        refine lv_icmp_ne (tgt := 66) hx hb dX6_isAhead_59 (by decide) (fun c59 => ?_) (fun c59 => ?_)
        · refine lv_iconst (v := 0) hx hb dX6_isAhead_66 (by decide) ?_
          exact zFG.zret hx hb hr hlocks hQ hw rfl dX6_isAhead_67 (by decide) ⟨zsi (by rcases hrh with e1 | e1 <;> rcases hro with e2 | e2 <;> first | exact absurd (e1.trans e2.symm) c49 | exact absurd e1 c59 | exact absurd (e1.symm.trans c59) (by decide) | (simp [zb, zAh, c7, c24, e1, e2]; done)), rfl⟩
        · refine lv_iconst (v := 1) hx hb dX6_isAhead_62 (by decide) ?_
          refine lv_goto (tgt := 67) hx hb dX6_isAhead_63 (by decide) ?_
          exact zFG.zret hx hb hr hlocks hQ hw rfl dX6_isAhead_67 (by decide) ⟨zsi (by rcases hrh with e1 | e1 <;> rcases hro with e2 | e2 <;> first | exact absurd (e1.trans e2.symm) c49 | exact absurd e1 c59 | exact absurd (e1.symm.trans c59) (by decide) | (simp [zb, zAh, c7, c24, e1, e2]; done)), rfl⟩
    · refine lv_iconst (v := 1) hx hb dX6_isAhead_27 (by decide) ?_
      refine lv_goto (tgt := 32) hx hb dX6_isAhead_28 (by decide) ?_
      refine lv_icmp_eq (tgt := 37) hx hb dX6_isAhead_32 (by decide) (fun c32 => absurd c32 (by decide)) (fun c32 => ?_)
      refine lv_iload_n hx hb dX6_isAhead_35 rfl (lv_at hl 0 rfl) ?_
      exact zFG.zret hx hb hr hlocks hQ hw rfl dX6_isAhead_36 (by decide) ⟨zsi (by simp [zb, zAh, c7, c24]), rfl⟩
  · refine lv_iconst (v := 1) hx hb dX6_isAhead_10 (by decide) ?_
    refine lv_goto (tgt := 15) hx hb dX6_isAhead_11 (by decide) ?_
    refine lv_istore_n (lv' := [(3, .int 1), (0, .ref (a 0)), (1, .int (nI h)), (2, .int (nI o))]) hx hb dX6_isAhead_15 rfl hl (by decide) rfl (fun ls hl => ?_)
    refine lv_iload_n hx hb dX6_isAhead_16 rfl (lv_at hl 0 rfl) ?_
    refine lv_aload_n hx hb dX6_isAhead_17 rfl (lv_at hl 1 rfl) ?_
    refine lv_iload_n hx hb dX6_isAhead_18 rfl (lv_at hl 3 rfl) ?_
    refine lv_iconst (v := 0) hx hb dX6_isAhead_19 (by decide) ?_
    refine zcVwi (r := S 3 o) hx hb hml hown hts hl.1 hK hE hA lkX6_74 (c_X6_its x a q g nu S o 0 (by omega) (by omega)) ⟨Nat.le_of_ble_eq_true rfl, Nat.le_of_ble_eq_true rfl⟩ ⟨Nat.zero_le _, Nat.zero_le _⟩ hw 0 4 rfl rfl rfl rfl (Nat.le_of_ble_eq_true rfl) dX6_isAhead_20 (fun H locs hw => ?_)
    have hw : zHw x A s.heap (zMW x a q g nu (zflat S)) H locs := hw
    refine lv_iconst (v := 4) hx hb dX6_isAhead_23 (by decide) ?_
    refine lv_icmp_ne (tgt := 31) hx hb dX6_isAhead_24 (by decide) (fun c24 => ?_) (fun c24 => ?_)
    · refine lv_iconst (v := 0) hx hb dX6_isAhead_31 (by decide) ?_
      refine lv_icmp_eq (tgt := 37) hx hb dX6_isAhead_32 (by decide) (fun c32 => absurd c32 (by decide)) (fun c32 => ?_)
      refine lv_iload_n hx hb dX6_isAhead_35 rfl (lv_at hl 0 rfl) ?_
      exact zFG.zret hx hb hr hlocks hQ hw rfl dX6_isAhead_36 (by decide) ⟨zsi (by simp [zb, zAh, c7, c24]), rfl⟩
    · refine lv_iconst (v := 1) hx hb dX6_isAhead_27 (by decide) ?_
      refine lv_goto (tgt := 32) hx hb dX6_isAhead_28 (by decide) ?_
      refine lv_icmp_eq (tgt := 37) hx hb dX6_isAhead_32 (by decide) (fun c32 => ?_) (fun c32 => absurd (rfl) c32)
      refine lv_aload_n hx hb dX6_isAhead_37 rfl (lv_at hl 1 rfl) ?_
      refine lv_iload_n hx hb dX6_isAhead_38 rfl (lv_at hl 2 rfl) ?_
      refine lv_iconst (v := 5) hx hb dX6_isAhead_39 (by decide) ?_
      refine zcVwi (r := S 8 h) hx hb hml hown hts hl.1 hK hE hA lkX6_74 (c_X6_its x a q g nu S h 5 (by omega) (by omega)) ⟨Nat.le_of_ble_eq_true rfl, Nat.le_of_ble_eq_true rfl⟩ ⟨Nat.zero_le _, Nat.zero_le _⟩ hw 0 4 rfl rfl rfl rfl (Nat.le_of_ble_eq_true rfl) dX6_isAhead_40 (fun H locs hw => ?_)
      have hw : zHw x A s.heap (zMW x a q g nu (zflat S)) H locs := hw
      refine lv_aload_n hx hb dX6_isAhead_43 rfl (lv_at hl 1 rfl) ?_
      refine lv_iload_n hx hb dX6_isAhead_44 rfl (lv_at hl 3 rfl) ?_
      refine lv_iconst (v := 5) hx hb dX6_isAhead_45 (by decide) ?_
      refine zcVwi (r := S 8 o) hx hb hml hown hts hl.1 hK hE hA lkX6_74 (c_X6_its x a q g nu S o 5 (by omega) (by omega)) ⟨Nat.le_of_ble_eq_true rfl, Nat.le_of_ble_eq_true rfl⟩ ⟨Nat.zero_le _, Nat.zero_le _⟩ hw 0 4 rfl rfl rfl rfl (Nat.le_of_ble_eq_true rfl) dX6_isAhead_46 (fun H locs hw => ?_)
      have hw : zHw x A s.heap (zMW x a q g nu (zflat S)) H locs := hw
      refine lv_icmp_eq (tgt := 68) hx hb dX6_isAhead_49 (by decide) (fun c49 => ?_) (fun c49 => ?_)
      · refine lv_aload_n hx hb dX6_isAhead_68 rfl (lv_at hl 1 rfl) ?_
        refine lv_iload_n hx hb dX6_isAhead_69 rfl (lv_at hl 2 rfl) ?_
        refine lv_iconst (v := 2) hx hb dX6_isAhead_70 (by decide) ?_
        refine zcVwi (r := S 5 h) hx hb hml hown hts hl.1 hK hE hA lkX6_74 (c_X6_its x a q g nu S h 2 (by omega) (by omega)) ⟨Nat.le_of_ble_eq_true rfl, Nat.le_of_ble_eq_true rfl⟩ ⟨Nat.zero_le _, Nat.zero_le _⟩ hw 0 4 rfl rfl rfl rfl (Nat.le_of_ble_eq_true rfl) dX6_isAhead_71 (fun H locs hw => ?_)
        have hw : zHw x A s.heap (zMW x a q g nu (zflat S)) H locs := hw
        refine lv_aload_n hx hb dX6_isAhead_74 rfl (lv_at hl 1 rfl) ?_
        refine lv_iload_n hx hb dX6_isAhead_75 rfl (lv_at hl 3 rfl) ?_
        refine lv_iconst (v := 2) hx hb dX6_isAhead_76 (by decide) ?_
        refine zcVwi (r := S 5 o) hx hb hml hown hts hl.1 hK hE hA lkX6_74 (c_X6_its x a q g nu S o 2 (by omega) (by omega)) ⟨Nat.le_of_ble_eq_true rfl, Nat.le_of_ble_eq_true rfl⟩ ⟨Nat.zero_le _, Nat.zero_le _⟩ hw 0 4 rfl rfl rfl rfl (Nat.le_of_ble_eq_true rfl) dX6_isAhead_77 (fun H locs hw => ?_)
        have hw : zHw x A s.heap (zMW x a q g nu (zflat S)) H locs := hw
        refine lv_icmp_lt (tgt := 87) hx hb dX6_isAhead_80 (by decide) (fun c80 => ?_) (fun c80 => ?_)
        · refine lv_iconst (v := 0) hx hb dX6_isAhead_87 (by decide) ?_
          exact zFG.zret hx hb hr hlocks hQ hw rfl dX6_isAhead_88 (by decide) ⟨zsi (by simp [zb, zAh, c7, c24, c49, c80]), rfl⟩
        · refine lv_iconst (v := 1) hx hb dX6_isAhead_83 (by decide) ?_
          refine lv_goto (tgt := 88) hx hb dX6_isAhead_84 (by decide) ?_
          exact zFG.zret hx hb hr hlocks hQ hw rfl dX6_isAhead_88 (by decide) ⟨zsi (by simp [zb, zAh, c7, c24, c49, c80]), rfl⟩
      · refine lv_aload_n hx hb dX6_isAhead_52 rfl (lv_at hl 1 rfl) ?_
        refine lv_iload_n hx hb dX6_isAhead_53 rfl (lv_at hl 2 rfl) ?_
        refine lv_iconst (v := 5) hx hb dX6_isAhead_54 (by decide) ?_
        refine zcVwi (r := S 8 h) hx hb hml hown hts hl.1 hK hE hA lkX6_74 (c_X6_its x a q g nu S h 5 (by omega) (by omega)) ⟨Nat.le_of_ble_eq_true rfl, Nat.le_of_ble_eq_true rfl⟩ ⟨Nat.zero_le _, Nat.zero_le _⟩ hw 0 4 rfl rfl rfl rfl (Nat.le_of_ble_eq_true rfl) dX6_isAhead_55 (fun H locs hw => ?_)
        have hw : zHw x A s.heap (zMW x a q g nu (zflat S)) H locs := hw
        refine lv_iconst (v := 1) hx hb dX6_isAhead_58 (by decide) ?_
        refine lv_icmp_ne (tgt := 66) hx hb dX6_isAhead_59 (by decide) (fun c59 => ?_) (fun c59 => ?_)
        · refine lv_iconst (v := 0) hx hb dX6_isAhead_66 (by decide) ?_
          exact zFG.zret hx hb hr hlocks hQ hw rfl dX6_isAhead_67 (by decide) ⟨zsi (by rcases hrh with e1 | e1 <;> rcases hro with e2 | e2 <;> first | exact absurd (e1.trans e2.symm) c49 | exact absurd e1 c59 | exact absurd (e1.symm.trans c59) (by decide) | (simp [zb, zAh, c7, c24, e1, e2]; done)), rfl⟩
        · refine lv_iconst (v := 1) hx hb dX6_isAhead_62 (by decide) ?_
          refine lv_goto (tgt := 67) hx hb dX6_isAhead_63 (by decide) ?_
          exact zFG.zret hx hb hr hlocks hQ hw rfl dX6_isAhead_67 (by decide) ⟨zsi (by rcases hrh with e1 | e1 <;> rcases hro with e2 | e2 <;> first | exact absurd (e1.trans e2.symm) c49 | exact absurd e1 c59 | exact absurd (e1.symm.trans c59) (by decide) | (simp [zb, zAh, c7, c24, e1, e2]; done)), rfl⟩

set_option maxHeartbeats 4000000 in
set_option maxRecDepth 100000 in
theorem c_X6_nextOne (x : zX) (a : Nat → Nat) (q : Nat → Int32) (g : zT) (nu : Nat → Nat → Int64) (S : zT) (hI : zInv S) : zFF x mX6_nextOne 5 [.ref (a 0)] (zMW x a q g nu (zflat S)) (some (.int (zo (zNb S (zN S))))) (zMW x a q g nu (zflat S)) := by
  obtain ⟨n, hn, h0⟩ := hI.holes
  have hN : zN S = n := zN_of hn h0
  have hw1 := zhot hI
  refine zFG.start RX6 cX6_nextOne 4 (some .int) rfl rfl (by decide +kernel) (Nat.le_of_ble_eq_true rfl) ?_
  intro p e s m ar below meth c ls A Q hx hb hr hml hown hts hlocks hK hE hA hQ hl hw
  have hl : lv_has ls 4 [(0, .ref (a 0))] := hl
  have hw : zHw x A s.heap (zMW x a q g nu (zflat S)) s.heap [] := hw
  refine lv_iconst (v := (-1)) hx hb dX6_nextOne_0 (by decide) ?_
  refine lv_istore_n (lv' := [(1, .int (-1)), (0, .ref (a 0))]) hx hb dX6_nextOne_1 rfl hl (by decide) rfl (fun ls hl => ?_)
  refine lv_iconst (v := 0) hx hb dX6_nextOne_2 (by decide) ?_
  refine lv_istore_n (lv' := [(2, .int 0), (1, .int (-1)), (0, .ref (a 0))]) hx hb dX6_nextOne_3 rfl hl (by decide) rfl (fun ls hl => ?_)
  have loop4 : ∀ (dd : Nat) (k : Nat), n - k < dd → (hk : k ≤ n) → ∀ (H : Heap) (locs : List Loc) (ls : Array Slot), zHw x A s.heap (zMW x a q g nu (zflat S)) H locs → lv_has ls 4 [(0, .ref (a 0)), (1, .int (zo (zNb S k))), (2, .int (nI k))] → W p x.1 e (zRM 5) s m ar below meth c H locs 0 0 Q (F0 m 4 ls []) := by
    intro dd
    induction dd with
    | zero => intro k hm; exact absurd hm (Nat.not_lt_zero _)
    | succ dd ih4 =>
      intro k hm hk H locs ls hw hl
      refine lv_iload_n hx hb dX6_nextOne_4 rfl (lv_at hl 2 rfl) ?_
      refine lv_aload_n hx hb dX6_nextOne_5 rfl (lv_at hl 0 rfl) ?_
      refine gfX6_7 hx hb hown hts hK hw 0 rfl rfl dX6_nextOne_6 ?_
      refine lv_iconst (v := 0) hx hb dX6_nextOne_9 (by decide) ?_
      refine zial2 (v := S 0 0) hx hb hK hw 1 0 0 rfl rfl rfl (by decide) (by decide) dX6_nextOne_10 rfl ?_
      refine lv_icmp_ge (tgt := 81) hx hb dX6_nextOne_11 (by decide) (fun c11 => ?_) (fun c11 => ?_)
      · have hke : k = n := zke h0 (by omega) hk c11
        refine lv_iload_n hx hb dX6_nextOne_81 rfl (lv_at hl 1 rfl) ?_
        exact zFG.iret hx hb hr hlocks hQ hw rfl dX6_nextOne_82 ⟨zsi (by rw [hN, ← hke]), rfl⟩
      · have hkn : k < n := zkn h0 (by omega) hk c11
        obtain ⟨hr5, hr4⟩ := zSr_of hI (show k < 8 by omega)
        refine lv_aload_n hx hb dX6_nextOne_14 rfl (lv_at hl 0 rfl) ?_
        refine lv_iload_n hx hb dX6_nextOne_15 rfl (lv_at hl 2 rfl) ?_
        refine lv_aload_n hx hb dX6_nextOne_16 rfl (lv_at hl 0 rfl) ?_
        refine gfX6_7 hx hb hown hts hK hw 0 rfl rfl dX6_nextOne_17 ?_
        refine lv_iconst (v := 5) hx hb dX6_nextOne_20 (by decide) ?_
        refine zial2 (v := S 0 5) hx hb hK hw 1 0 5 rfl rfl rfl (by decide) (by decide) dX6_nextOne_21 rfl ?_
        refine zcVwi (r := zb (S 6 k = 0 ∧ zPs S k (S 0 5) ≤ S 0 2)) hx hb hml hown hts hl.1 hK hE hA lkX6_129 (c_X6_mayFill x a q g nu S k (S 0 5) (by omega) hw1) ⟨Nat.le_of_ble_eq_true rfl, Nat.le_of_ble_eq_true rfl⟩ ⟨Nat.zero_le _, Nat.zero_le _⟩ hw 0 4 rfl rfl rfl rfl (Nat.le_of_ble_eq_true rfl) dX6_nextOne_22 (fun H locs hw => ?_)
        have hw : zHw x A s.heap (zMW x a q g nu (zflat S)) H locs := hw
        refine lv_if_eq (tgt := 50) hx hb dX6_nextOne_25 (by decide) (fun c25 => ?_) (fun c25 => ?_)
        · have c25 := zb_0.mp c25
          refine lv_iconst (v := 0) hx hb dX6_nextOne_50 (by decide) ?_
          refine lv_istore_n (lv' := [(3, .int 0), (0, .ref (a 0)), (1, .int (zo (zNb S k))), (2, .int (nI k))]) hx hb dX6_nextOne_51 rfl hl (by decide) rfl (fun ls hl => ?_)
          refine lv_iload_n hx hb dX6_nextOne_52 rfl (lv_at hl 0 rfl) ?_
          refine lv_if_eq (tgt := 73) hx hb dX6_nextOne_53 (by decide) (fun c53 => ?_) (fun c53 => absurd (by decide) c53)
          refine lv_iload_n hx hb dX6_nextOne_73 rfl (lv_at hl 2 rfl) ?_
          refine lv_istore_n (lv' := [(1, .int (zo (zNb S k))), (3, .int 0), (0, .ref (a 0)), (2, .int (nI k))]) hx hb dX6_nextOne_74 rfl hl (by decide) rfl (fun ls hl => ?_)
          have hl : lv_has ls 4 [(1, .int (zo (zNb S (k + 1)))), (3, .int 0), (0, .ref (a 0)), (2, .int (nI k))] := by
            rw [show zo (zNb S (k + 1)) = zo (zNb S k) from (by rw [zNb_neg (fun h => c25 ⟨h.1.1.1, h.1.2⟩)])]; exact hl
          refine lv_iinc (v := nI (k + 1)) (lv' := [(2, .int (nI (k + 1))), (1, .int (zo (zNb S (k + 1)))), (3, .int 0), (0, .ref (a 0))]) hx hb dX6_nextOne_75 hl (k := 3) rfl (nI_1 k) (by decide) rfl (fun ls hl => ?_)
          refine lv_goto (tgt := 4) hx hb dX6_nextOne_78 (by decide) ?_
          exact ih4 (k + 1) (by omega) (by omega) _ _ _ hw (lv_sub hl [3, 1, 0] rfl)
        · have c25 := zb_n0.mp c25
          refine lv_aload_n hx hb dX6_nextOne_28 rfl (lv_at hl 0 rfl) ?_
          refine gfX6_7 hx hb hown hts hK hw 0 rfl rfl dX6_nextOne_29 ?_
          refine lv_aload_n hx hb dX6_nextOne_32 rfl (lv_at hl 0 rfl) ?_
          refine lv_iload_n hx hb dX6_nextOne_33 rfl (lv_at hl 2 rfl) ?_
          refine lv_iconst (v := 1) hx hb dX6_nextOne_34 (by decide) ?_
          refine zcVwi (r := S 4 k) hx hb hml hown hts hl.1 hK hE hA lkX6_74 (c_X6_its x a q g nu S k 1 (by omega) (by omega)) ⟨Nat.le_of_ble_eq_true rfl, Nat.le_of_ble_eq_true rfl⟩ ⟨Nat.zero_le _, Nat.zero_le _⟩ hw 0 4 rfl rfl rfl rfl (Nat.le_of_ble_eq_true rfl) dX6_nextOne_35 (fun H locs hw => ?_)
          have hw : zHw x A s.heap (zMW x a q g nu (zflat S)) H locs := hw
          refine W.eq (g2 := F0 m 38 ls [.int (nI (zSr S k)), .ref (a 1)]) (by rw [hr4]) ?_
          refine lv_iconst (v := 1) hx hb dX6_nextOne_38 (by decide) ?_
          refine zcSwi (r := nI (7 + 2 * (zSr S k) + 1)) hx hb hml hown hts hl.1 hK hE hA lkX6_41 (c_X6_roadOf x (zMW x a q g nu (zflat S)) (zSr S k) 1) ⟨Nat.le_of_ble_eq_true rfl, Nat.le_of_ble_eq_true rfl⟩ ⟨Nat.zero_le _, Nat.zero_le _⟩ hw rfl rfl (Nat.le_of_ble_eq_true rfl) dX6_nextOne_39 (fun H locs hw => ?_)
          have hw : zHw x A s.heap (zMW x a q g nu (zflat S)) H locs := hw
          refine zial2 (v := S 2 (zSr S k)) hx hb hK hw 1 0 (7 + 2 * (zSr S k) + 1) rfl rfl rfl (by omega) (by decide) dX6_nextOne_42 (zflat_ro S (by omega) (by omega)) ?_
          refine lv_if_ne (tgt := 50) hx hb dX6_nextOne_43 (by decide) (fun c43 => ?_) (fun c43 => ?_)
          · refine lv_iconst (v := 0) hx hb dX6_nextOne_50 (by decide) ?_
            refine lv_istore_n (lv' := [(3, .int 0), (0, .ref (a 0)), (1, .int (zo (zNb S k))), (2, .int (nI k))]) hx hb dX6_nextOne_51 rfl hl (by decide) rfl (fun ls hl => ?_)
            refine lv_iload_n hx hb dX6_nextOne_52 rfl (lv_at hl 0 rfl) ?_
            refine lv_if_eq (tgt := 73) hx hb dX6_nextOne_53 (by decide) (fun c53 => ?_) (fun c53 => absurd (by decide) c53)
            refine lv_iload_n hx hb dX6_nextOne_73 rfl (lv_at hl 2 rfl) ?_
            refine lv_istore_n (lv' := [(1, .int (zo (zNb S k))), (3, .int 0), (0, .ref (a 0)), (2, .int (nI k))]) hx hb dX6_nextOne_74 rfl hl (by decide) rfl (fun ls hl => ?_)
            have hl : lv_has ls 4 [(1, .int (zo (zNb S (k + 1)))), (3, .int 0), (0, .ref (a 0)), (2, .int (nI k))] := by
              rw [show zo (zNb S (k + 1)) = zo (zNb S k) from (by rw [zNb_neg (fun h => h.1.1.2 c43)])]; exact hl
            refine lv_iinc (v := nI (k + 1)) (lv' := [(2, .int (nI (k + 1))), (1, .int (zo (zNb S (k + 1)))), (3, .int 0), (0, .ref (a 0))]) hx hb dX6_nextOne_75 hl (k := 3) rfl (nI_1 k) (by decide) rfl (fun ls hl => ?_)
            refine lv_goto (tgt := 4) hx hb dX6_nextOne_78 (by decide) ?_
            exact ih4 (k + 1) (by omega) (by omega) _ _ _ hw (lv_sub hl [3, 1, 0] rfl)
          · refine lv_iconst (v := 1) hx hb dX6_nextOne_46 (by decide) ?_
            refine lv_goto (tgt := 51) hx hb dX6_nextOne_47 (by decide) ?_
            refine lv_istore_n (lv' := [(3, .int 1), (0, .ref (a 0)), (1, .int (zo (zNb S k))), (2, .int (nI k))]) hx hb dX6_nextOne_51 rfl hl (by decide) rfl (fun ls hl => ?_)
            refine lv_iload_n hx hb dX6_nextOne_52 rfl (lv_at hl 0 rfl) ?_
            refine lv_if_eq (tgt := 73) hx hb dX6_nextOne_53 (by decide) (fun c53 => absurd c53 (by decide)) (fun c53 => ?_)
            rcases hbb : zNb S k with _ | b
            · have hl : lv_has ls 4 [(3, .int 1), (0, .ref (a 0)), (1, .int (-1)), (2, .int (nI k))] := by
                rw [show (-1) = zo (zNb S k) from (by rw [hbb]; rfl)]; exact hl
              refine lv_iload_n hx hb dX6_nextOne_56 rfl (lv_at hl 2 rfl) ?_
              refine lv_if_lt (tgt := 69) hx hb dX6_nextOne_57 (by decide) (fun c57 => ?_) (fun c57 => absurd (by decide) c57)
              refine lv_iload_n hx hb dX6_nextOne_69 rfl (lv_at hl 3 rfl) ?_
              refine lv_goto (tgt := 74) hx hb dX6_nextOne_70 (by decide) ?_
              refine lv_istore_n (lv' := [(1, .int (nI k)), (3, .int 1), (0, .ref (a 0)), (2, .int (nI k))]) hx hb dX6_nextOne_74 rfl hl (by decide) rfl (fun ls hl => ?_)
              have hl : lv_has ls 4 [(1, .int (zo (zNb S (k + 1)))), (3, .int 1), (0, .ref (a 0)), (2, .int (nI k))] := by
                rw [show zo (zNb S (k + 1)) = nI k from (by rw [zNb_pos ⟨⟨c25.1, fun h => h c43⟩, c25.2⟩ (by rw [hbb]; rfl)]; rfl)]; exact hl
              refine lv_iinc (v := nI (k + 1)) (lv' := [(2, .int (nI (k + 1))), (1, .int (zo (zNb S (k + 1)))), (3, .int 1), (0, .ref (a 0))]) hx hb dX6_nextOne_75 hl (k := 3) rfl (nI_1 k) (by decide) rfl (fun ls hl => ?_)
              refine lv_goto (tgt := 4) hx hb dX6_nextOne_78 (by decide) ?_
              exact ih4 (k + 1) (by omega) (by omega) _ _ _ hw (lv_sub hl [3, 1, 0] rfl)
            · have hbk := (zNb_lt S k b hbb).1
              have hl : lv_has ls 4 [(3, .int 1), (0, .ref (a 0)), (1, .int (nI b)), (2, .int (nI k))] := by
                rw [show nI b = zo (zNb S k) from (by rw [hbb]; rfl)]; exact hl
              refine lv_iload_n hx hb dX6_nextOne_56 rfl (lv_at hl 2 rfl) ?_
              refine lv_if_lt (tgt := 69) hx hb dX6_nextOne_57 (by decide) (fun c57 => absurd c57 (nI_pos (by omega))) (fun c57 => ?_)
              refine lv_aload_n hx hb dX6_nextOne_60 rfl (lv_at hl 1 rfl) ?_
              refine lv_iload_n hx hb dX6_nextOne_61 rfl (lv_at hl 2 rfl) ?_
              refine lv_iload_n hx hb dX6_nextOne_62 rfl (lv_at hl 3 rfl) ?_
              refine zcVwi (r := zb (¬ zAh S k b)) hx hb hml hown hts hl.1 hK hE hA lkX6_136 (c_X6_isAhead x a q g nu S b k (by omega) (by omega) (zrung hI (by omega)) (zrung hI (by omega))) ⟨Nat.le_of_ble_eq_true rfl, Nat.le_of_ble_eq_true rfl⟩ ⟨Nat.zero_le _, Nat.zero_le _⟩ hw 0 4 rfl rfl rfl rfl (Nat.le_of_ble_eq_true rfl) dX6_nextOne_63 (fun H locs hw => ?_)
              have hw : zHw x A s.heap (zMW x a q g nu (zflat S)) H locs := hw
              refine lv_if_ne (tgt := 73) hx hb dX6_nextOne_66 (by decide) (fun c66 => ?_) (fun c66 => ?_)
              · have c66 := zb_n0.mp c66
                refine lv_iload_n hx hb dX6_nextOne_73 rfl (lv_at hl 2 rfl) ?_
                refine lv_istore_n (lv' := [(1, .int (nI b)), (3, .int 1), (0, .ref (a 0)), (2, .int (nI k))]) hx hb dX6_nextOne_74 rfl hl (by decide) rfl (fun ls hl => ?_)
                have hl : lv_has ls 4 [(1, .int (zo (zNb S (k + 1)))), (3, .int 1), (0, .ref (a 0)), (2, .int (nI k))] := by
                  rw [show zo (zNb S (k + 1)) = nI b from (by first | (rw [zNb_pos ⟨⟨c25.1, fun h => h c43⟩, c25.2⟩ (by rw [hbb]; exact decide_eq_true (Decidable.not_not.mp c66))]; rfl) | (rw [zNb_neg (fun h => by have h2 := h.2; rw [hbb] at h2; exact c66 (of_decide_eq_true h2)), hbb]; rfl))]; exact hl
                refine lv_iinc (v := nI (k + 1)) (lv' := [(2, .int (nI (k + 1))), (1, .int (zo (zNb S (k + 1)))), (3, .int 1), (0, .ref (a 0))]) hx hb dX6_nextOne_75 hl (k := 3) rfl (nI_1 k) (by decide) rfl (fun ls hl => ?_)
                refine lv_goto (tgt := 4) hx hb dX6_nextOne_78 (by decide) ?_
                exact ih4 (k + 1) (by omega) (by omega) _ _ _ hw (lv_sub hl [3, 1, 0] rfl)
              · have c66 := zb_0.mp c66
                refine lv_iload_n hx hb dX6_nextOne_69 rfl (lv_at hl 3 rfl) ?_
                refine lv_goto (tgt := 74) hx hb dX6_nextOne_70 (by decide) ?_
                refine lv_istore_n (lv' := [(1, .int (nI k)), (3, .int 1), (0, .ref (a 0)), (2, .int (nI k))]) hx hb dX6_nextOne_74 rfl hl (by decide) rfl (fun ls hl => ?_)
                have hl : lv_has ls 4 [(1, .int (zo (zNb S (k + 1)))), (3, .int 1), (0, .ref (a 0)), (2, .int (nI k))] := by
                  rw [show zo (zNb S (k + 1)) = nI k from (by first | (rw [zNb_pos ⟨⟨c25.1, fun h => h c43⟩, c25.2⟩ (by rw [hbb]; exact decide_eq_true (Decidable.not_not.mp c66))]; rfl) | (rw [zNb_neg (fun h => by have h2 := h.2; rw [hbb] at h2; exact c66 (of_decide_eq_true h2)), hbb]; rfl))]; exact hl
                refine lv_iinc (v := nI (k + 1)) (lv' := [(2, .int (nI (k + 1))), (1, .int (zo (zNb S (k + 1)))), (3, .int 1), (0, .ref (a 0))]) hx hb dX6_nextOne_75 hl (k := 3) rfl (nI_1 k) (by decide) rfl (fun ls hl => ?_)
                refine lv_goto (tgt := 4) hx hb dX6_nextOne_78 (by decide) ?_
                exact ih4 (k + 1) (by omega) (by omega) _ _ _ hw (lv_sub hl [3, 1, 0] rfl)
  exact loop4 (_ + 1) 0 (Nat.lt_succ_self _) (Nat.zero_le _) _ _ _ hw (lv_sub hl [2, 1, 0] rfl)

set_option maxHeartbeats 4000000 in
set_option maxRecDepth 100000 in
theorem c_X6_ages (x : zX) (a : Nat → Nat) (q : Nat → Int32) (g : zT) (nu : Nat → Nat → Int64) (S : zT) (h : Nat) (hh : h < 8) : zFF x mX6_ages 3 [.ref (a 0), .int (nI h)] (zMW x a q g nu (zflat S)) none (zMW x a q g nu (zflat (if zHd (S 3 h) (S 6 h) < zHt (S 7 h + 1) 999 then zU (zU S 7 h (zHt (S 7 h + 1) 999)) 6 h 0 else zU S 7 h (zHt (S 7 h + 1) 999)))) := by
  refine zFG.start RX6 cX6_ages 2 none rfl rfl (by decide +kernel) (Nat.le_of_ble_eq_true rfl) ?_
  intro p e s m ar below meth c ls A Q hx hb hr hml hown hts hlocks hK hE hA hQ hl hw
  have hl : lv_has ls 2 [(0, .ref (a 0)), (1, .int (nI h))] := hl
  have hw : zHw x A s.heap (zMW x a q g nu (zflat S)) s.heap [] := hw
  refine lv_aload_n hx hb dX6_ages_0 rfl (lv_at hl 0 rfl) ?_
  refine gfX6_7 hx hb hown hts hK hw 0 rfl rfl dX6_ages_1 ?_
  refine lv_iload_n hx hb dX6_ages_4 rfl (lv_at hl 1 rfl) ?_
  refine lv_iconst (v := 4) hx hb dX6_ages_5 (by decide) ?_
  refine zcSwi (r := nI (19 + 6 * h + 4)) hx hb hml hown hts hl.1 hK hE hA lkX6_52 (c_X6_spotOf x (zMW x a q g nu (zflat S)) h 4) ⟨Nat.le_of_ble_eq_true rfl, Nat.le_of_ble_eq_true rfl⟩ ⟨Nat.zero_le _, Nat.zero_le _⟩ hw rfl rfl (Nat.le_of_ble_eq_true rfl) dX6_ages_6 (fun H locs hw => ?_)
  have hw : zHw x A s.heap (zMW x a q g nu (zflat S)) H locs := hw
  refine lv_aload_n hx hb dX6_ages_9 rfl (lv_at hl 0 rfl) ?_
  refine lv_iload_n hx hb dX6_ages_10 rfl (lv_at hl 1 rfl) ?_
  refine lv_iconst (v := 4) hx hb dX6_ages_11 (by decide) ?_
  refine zcVwi (r := S 7 h) hx hb hml hown hts hl.1 hK hE hA lkX6_74 (c_X6_its x a q g nu S h 4 (by omega) (by omega)) ⟨Nat.le_of_ble_eq_true rfl, Nat.le_of_ble_eq_true rfl⟩ ⟨Nat.zero_le _, Nat.zero_le _⟩ hw 0 4 rfl rfl rfl rfl (Nat.le_of_ble_eq_true rfl) dX6_ages_12 (fun H locs hw => ?_)
  have hw : zHw x A s.heap (zMW x a q g nu (zflat S)) H locs := hw
  refine lv_iconst (v := 1) hx hb dX6_ages_15 (by decide) ?_
  refine lv_iadd hx hb dX6_ages_16 ?_
  refine lv_sipush (v := 999) hx hb dX6_ages_17 (by decide) ?_
  refine zcSwi (r := zHt ((S 7 h) + 1) 999) hx hb hml hown hts hl.1 hK hE hA lkX6_126 (c_X6_heldTo x (zMW x a q g nu (zflat S)) ((S 7 h) + 1) 999) ⟨Nat.le_of_ble_eq_true rfl, Nat.le_of_ble_eq_true rfl⟩ ⟨Nat.zero_le _, Nat.zero_le _⟩ hw rfl rfl (Nat.le_of_ble_eq_true rfl) dX6_ages_20 (fun H locs hw => ?_)
  have hw : zHw x A s.heap (zMW x a q g nu (zflat S)) H locs := hw
  refine zias2 (f' := zflat (zU S 7 h (zHt ((S 7 h) + 1) 999))) hx hb hK hw 1 0 (19 + 6 * h + 4) rfl rfl rfl (by omega) (by decide) dX6_ages_23 (zflat_uit S _ (by omega)) (fun H locs hw => ?_)
  have hw : zHw x A s.heap (zMW x a q g nu (zflat (zU S 7 h (zHt ((S 7 h) + 1) 999)))) H locs := hw
  refine lv_aload_n hx hb dX6_ages_24 rfl (lv_at hl 0 rfl) ?_
  refine lv_iload_n hx hb dX6_ages_25 rfl (lv_at hl 1 rfl) ?_
  refine lv_iconst (v := 4) hx hb dX6_ages_26 (by decide) ?_
  refine zcVwi (r := (zU S 7 h (zHt ((S 7 h) + 1) 999)) 7 h) hx hb hml hown hts hl.1 hK hE hA lkX6_74 (c_X6_its x a q g nu (zU S 7 h (zHt ((S 7 h) + 1) 999)) h 4 (by omega) (by omega)) ⟨Nat.le_of_ble_eq_true rfl, Nat.le_of_ble_eq_true rfl⟩ ⟨Nat.zero_le _, Nat.zero_le _⟩ hw 0 4 rfl rfl rfl rfl (Nat.le_of_ble_eq_true rfl) dX6_ages_27 (fun H locs hw => ?_)
  have hw : zHw x A s.heap (zMW x a q g nu (zflat (zU S 7 h (zHt ((S 7 h) + 1) 999)))) H locs := hw
  refine W.eq (g2 := F0 m 30 ls [.int (zHt (S 7 h + 1) 999)]) (by rw [zU_at]) ?_
  refine lv_aload_n hx hb dX6_ages_30 rfl (lv_at hl 0 rfl) ?_
  refine lv_iload_n hx hb dX6_ages_31 rfl (lv_at hl 1 rfl) ?_
  refine lv_aload_n hx hb dX6_ages_32 rfl (lv_at hl 0 rfl) ?_
  refine lv_iload_n hx hb dX6_ages_33 rfl (lv_at hl 1 rfl) ?_
  refine lv_iconst (v := 3) hx hb dX6_ages_34 (by decide) ?_
  refine zcVwi (r := (zU S 7 h (zHt ((S 7 h) + 1) 999)) 6 h) hx hb hml hown hts hl.1 hK hE hA lkX6_74 (c_X6_its x a q g nu (zU S 7 h (zHt ((S 7 h) + 1) 999)) h 3 (by omega) (by omega)) ⟨Nat.le_of_ble_eq_true rfl, Nat.le_of_ble_eq_true rfl⟩ ⟨Nat.zero_le _, Nat.zero_le _⟩ hw 0 4 rfl rfl rfl rfl (Nat.le_of_ble_eq_true rfl) dX6_ages_35 (fun H locs hw => ?_)
  have hw : zHw x A s.heap (zMW x a q g nu (zflat (zU S 7 h (zHt ((S 7 h) + 1) 999)))) H locs := hw
  refine lv_iconst (v := 2) hx hb dX6_ages_38 (by decide) ?_
  refine lv_icmp_ne (tgt := 46) hx hb dX6_ages_39 (by decide) (fun c39 => ?_) (fun c39 => ?_)
  · refine lv_iconst (v := 0) hx hb dX6_ages_46 (by decide) ?_
    refine zcVwi (r := zHd (S 3 h) (S 6 h)) hx hb hml hown hts hl.1 hK hE hA lkX6_106 (c_X6_holdsOf x a q g nu (zU S 7 h (zHt ((S 7 h) + 1) 999)) h (S 6 h) 0 hh (by first | exact (zb_t c39).symm | exact (zb_f c39).symm)) ⟨Nat.le_of_ble_eq_true rfl, Nat.le_of_ble_eq_true rfl⟩ ⟨Nat.zero_le _, Nat.zero_le _⟩ hw 0 4 rfl rfl rfl rfl (Nat.le_of_ble_eq_true rfl) dX6_ages_47 (fun H locs hw => ?_)
    have hw : zHw x A s.heap (zMW x a q g nu (zflat (zU S 7 h (zHt ((S 7 h) + 1) 999)))) H locs := hw
    refine lv_icmp_le (tgt := 64) hx hb dX6_ages_50 (by decide) (fun c50 => ?_) (fun c50 => ?_)
    · exact zFG.vret hx hb hr hlocks hQ hw rfl dX6_ages_64 ⟨rfl, congrArg (fun z => zMW x a q g nu (zflat z)) (by first | rw [if_pos (Int32.not_le.mp c50)] | rw [if_neg (Int32.not_lt.mpr c50)])⟩
    · refine lv_aload_n hx hb dX6_ages_53 rfl (lv_at hl 0 rfl) ?_
      refine gfX6_7 hx hb hown hts hK hw 0 rfl rfl dX6_ages_54 ?_
      refine lv_iload_n hx hb dX6_ages_57 rfl (lv_at hl 1 rfl) ?_
      refine lv_iconst (v := 3) hx hb dX6_ages_58 (by decide) ?_
      refine zcSwi (r := nI (19 + 6 * h + 3)) hx hb hml hown hts hl.1 hK hE hA lkX6_52 (c_X6_spotOf x (zMW x a q g nu (zflat (zU S 7 h (zHt ((S 7 h) + 1) 999)))) h 3) ⟨Nat.le_of_ble_eq_true rfl, Nat.le_of_ble_eq_true rfl⟩ ⟨Nat.zero_le _, Nat.zero_le _⟩ hw rfl rfl (Nat.le_of_ble_eq_true rfl) dX6_ages_59 (fun H locs hw => ?_)
      have hw : zHw x A s.heap (zMW x a q g nu (zflat (zU S 7 h (zHt ((S 7 h) + 1) 999)))) H locs := hw
      refine lv_iconst (v := 0) hx hb dX6_ages_62 (by decide) ?_
      refine zias2 (f' := zflat (zU (zU S 7 h (zHt ((S 7 h) + 1) 999)) 6 h 0)) hx hb hK hw 1 0 (19 + 6 * h + 3) rfl rfl rfl (by omega) (by decide) dX6_ages_63 (zflat_uit (zU S 7 h (zHt ((S 7 h) + 1) 999)) _ (by omega)) (fun H locs hw => ?_)
      have hw : zHw x A s.heap (zMW x a q g nu (zflat (zU (zU S 7 h (zHt ((S 7 h) + 1) 999)) 6 h 0))) H locs := hw
      exact zFG.vret hx hb hr hlocks hQ hw rfl dX6_ages_64 ⟨rfl, congrArg (fun z => zMW x a q g nu (zflat z)) (by first | rw [if_pos (Int32.not_le.mp c50)] | rw [if_neg (Int32.not_lt.mpr c50)])⟩
  · refine lv_iconst (v := 1) hx hb dX6_ages_42 (by decide) ?_
    refine lv_goto (tgt := 47) hx hb dX6_ages_43 (by decide) ?_
    refine zcVwi (r := zHd (S 3 h) (S 6 h)) hx hb hml hown hts hl.1 hK hE hA lkX6_106 (c_X6_holdsOf x a q g nu (zU S 7 h (zHt ((S 7 h) + 1) 999)) h (S 6 h) 1 hh (by first | exact (zb_t c39).symm | exact (zb_f c39).symm)) ⟨Nat.le_of_ble_eq_true rfl, Nat.le_of_ble_eq_true rfl⟩ ⟨Nat.zero_le _, Nat.zero_le _⟩ hw 0 4 rfl rfl rfl rfl (Nat.le_of_ble_eq_true rfl) dX6_ages_47 (fun H locs hw => ?_)
    have hw : zHw x A s.heap (zMW x a q g nu (zflat (zU S 7 h (zHt ((S 7 h) + 1) 999)))) H locs := hw
    refine lv_icmp_le (tgt := 64) hx hb dX6_ages_50 (by decide) (fun c50 => ?_) (fun c50 => ?_)
    · exact zFG.vret hx hb hr hlocks hQ hw rfl dX6_ages_64 ⟨rfl, congrArg (fun z => zMW x a q g nu (zflat z)) (by first | rw [if_pos (Int32.not_le.mp c50)] | rw [if_neg (Int32.not_lt.mpr c50)])⟩
    · refine lv_aload_n hx hb dX6_ages_53 rfl (lv_at hl 0 rfl) ?_
      refine gfX6_7 hx hb hown hts hK hw 0 rfl rfl dX6_ages_54 ?_
      refine lv_iload_n hx hb dX6_ages_57 rfl (lv_at hl 1 rfl) ?_
      refine lv_iconst (v := 3) hx hb dX6_ages_58 (by decide) ?_
      refine zcSwi (r := nI (19 + 6 * h + 3)) hx hb hml hown hts hl.1 hK hE hA lkX6_52 (c_X6_spotOf x (zMW x a q g nu (zflat (zU S 7 h (zHt ((S 7 h) + 1) 999)))) h 3) ⟨Nat.le_of_ble_eq_true rfl, Nat.le_of_ble_eq_true rfl⟩ ⟨Nat.zero_le _, Nat.zero_le _⟩ hw rfl rfl (Nat.le_of_ble_eq_true rfl) dX6_ages_59 (fun H locs hw => ?_)
      have hw : zHw x A s.heap (zMW x a q g nu (zflat (zU S 7 h (zHt ((S 7 h) + 1) 999)))) H locs := hw
      refine lv_iconst (v := 0) hx hb dX6_ages_62 (by decide) ?_
      refine zias2 (f' := zflat (zU (zU S 7 h (zHt ((S 7 h) + 1) 999)) 6 h 0)) hx hb hK hw 1 0 (19 + 6 * h + 3) rfl rfl rfl (by omega) (by decide) dX6_ages_63 (zflat_uit (zU S 7 h (zHt ((S 7 h) + 1) 999)) _ (by omega)) (fun H locs hw => ?_)
      have hw : zHw x A s.heap (zMW x a q g nu (zflat (zU (zU S 7 h (zHt ((S 7 h) + 1) 999)) 6 h 0))) H locs := hw
      exact zFG.vret hx hb hr hlocks hQ hw rfl dX6_ages_64 ⟨rfl, congrArg (fun z => zMW x a q g nu (zflat z)) (by first | rw [if_pos (Int32.not_le.mp c50)] | rw [if_neg (Int32.not_lt.mpr c50)])⟩

set_option maxHeartbeats 4000000 in
set_option maxRecDepth 100000 in
theorem c_X6_week (x : zX) (a : Nat → Nat) (q : Nat → Int32) (g : zT) (nu : Nat → Nat → Int64) (S : zT) (hI : zInv S) : zFF x mX6_week 6 [.ref (a 0)] (zMW x a q g nu (zflat S)) none (zMW x a q g nu (zflat (zWk S))) := by
  obtain ⟨n, hn, h0⟩ := hI.holes
  have hN : zN S = n := zN_of hn h0
  obtain ⟨mn, hm6, hm⟩ := hI 0 4 (by decide) (by decide) (by decide)
  have hm6 : mn ≤ 6 := hm6
  have hM : zMn S = mn := by unfold zMn; rw [hm]; exact nI_clamp (by omega)
  obtain ⟨hI1, h1, -⟩ := zMs_ok (zMn S) hI
  have hO := zWs_ok hI1
  refine zFG.start RX6 cX6_week 4 none rfl rfl (by decide +kernel) (Nat.le_of_ble_eq_true rfl) ?_
  intro p e s m ar below meth c ls A Q hx hb hr hml hown hts hlocks hK hE hA hQ hl hw
  have hl : lv_has ls 4 [(0, .ref (a 0))] := hl
  have hw : zHw x A s.heap (zMW x a q g nu (zflat S)) s.heap [] := hw
  have K44 :   ∀ (H : Heap) (locs : List Loc) (ls : Array Slot), zHw x A s.heap (zMW x a q g nu (zflat (zMs (zMn S) S))) H locs → lv_has ls 4 [(0, .ref (a 0))] → W p x.1 e (zRM 6) s m ar below meth c H locs 0 0 Q (F0 m 44 ls []) := by
    intro   H locs ls hw hl
    refine lv_iconst (v := 0) hx hb dX6_week_44 (by decide) ?_
    refine lv_istore_n (lv' := [(2, .int 0), (0, .ref (a 0))]) hx hb dX6_week_45 rfl hl (by decide) rfl (fun ls hl => ?_)
    have loop46 : ∀ (dd : Nat) (k : Nat), n - k < dd → (hk : k ≤ n) → ∀ (H : Heap) (locs : List Loc) (ls : Array Slot), zHw x A s.heap (zMW x a q g nu (zflat (zWs (zMs (zMn S) S) k))) H locs → lv_has ls 4 [(0, .ref (a 0)), (2, .int (nI k))] → W p x.1 e (zRM 6) s m ar below meth c H locs 0 0 Q (F0 m 46 ls []) := by
      intro dd
      induction dd with
      | zero => intro k hm; exact absurd hm (Nat.not_lt_zero _)
      | succ dd ih46 =>
        intro k hm hk H locs ls hw hl
        refine lv_iload_n hx hb dX6_week_46 rfl (lv_at hl 1 rfl) ?_
        refine lv_aload_n hx hb dX6_week_47 rfl (lv_at hl 0 rfl) ?_
        refine gfX6_7 hx hb hown hts hK hw 0 rfl rfl dX6_week_48 ?_
        refine lv_iconst (v := 0) hx hb dX6_week_51 (by decide) ?_
        refine zial2 (v := (zWs (zMs (zMn S) S) k) 0 0) hx hb hK hw 1 0 0 rfl rfl rfl (by decide) (by decide) dX6_week_52 rfl ?_
        refine lv_icmp_ge (tgt := 106) hx hb dX6_week_53 (by decide) (fun c53 => ?_) (fun c53 => ?_)
        · have hke : k = n := zke (((hO k (by omega)).2 0).trans (h1.trans h0)) (by omega) hk c53
          have hw : zHw x A s.heap (zMW x a q g nu (zflat (zWa S))) H locs := by
            rw [show zWa S = (zWs (zMs (zMn S) S) k) from (by unfold zWa; rw [hN, hke])]; exact hw
          refine lv_aload_n hx hb dX6_week_106 rfl (lv_at hl 0 rfl) ?_
          refine gfX6_7 hx hb hown hts hK hw 0 rfl rfl dX6_week_107 ?_
          refine lv_iconst (v := 1) hx hb dX6_week_110 (by decide) ?_
          refine lv_dup2_11 hx hb dX6_week_111 rfl rfl ?_
          refine zial2 (v := (zWa S) 0 1) hx hb hK hw 1 0 1 rfl rfl rfl (by decide) (by decide) dX6_week_112 rfl ?_
          refine lv_iconst (v := 1) hx hb dX6_week_113 (by decide) ?_
          refine lv_iadd hx hb dX6_week_114 ?_
          refine zias2 (f' := zflat (zU (zWa S) 0 1 (((zWa S) 0 1) + 1))) hx hb hK hw 1 0 1 rfl rfl rfl (by decide) (by decide) dX6_week_115 (zflat_usc (zWa S) _ (by decide)) (fun H locs hw => ?_)
          have hw : zHw x A s.heap (zMW x a q g nu (zflat (zU (zWa S) 0 1 (((zWa S) 0 1) + 1)))) H locs := hw
          have hw : zHw x A s.heap (zMW x a q g nu (zflat (zWn (zWa S)))) H locs := by
            rw [show zWn (zWa S) = zU (zWa S) 0 1 (((zWa S) 0 1) + 1) from rfl]; exact hw
          refine lv_aload_n hx hb dX6_week_116 rfl (lv_at hl 0 rfl) ?_
          refine gfX6_7 hx hb hown hts hK hw 0 rfl rfl dX6_week_117 ?_
          refine lv_iconst (v := 2) hx hb dX6_week_120 (by decide) ?_
          refine lv_aload_n hx hb dX6_week_121 rfl (lv_at hl 0 rfl) ?_
          refine zcVwi (r := zWo (zWn (zWa S))) hx hb hml hown hts hl.1 hK hE hA lkX6_87 (c_X6_weekOfYear x a q g nu (zWn (zWa S)) ) ⟨Nat.le_of_ble_eq_true rfl, Nat.le_of_ble_eq_true rfl⟩ ⟨Nat.zero_le _, Nat.zero_le _⟩ hw 0 4 rfl rfl rfl rfl (Nat.le_of_ble_eq_true rfl) dX6_week_122 (fun H locs hw => ?_)
          have hw : zHw x A s.heap (zMW x a q g nu (zflat (zWn (zWa S)))) H locs := hw
          refine lv_bipush (v := 12) hx hb dX6_week_125 (by decide) ?_
          refine lv_icmp_ne (tgt := 139) hx hb dX6_week_127 (by decide) (fun c127 => ?_) (fun c127 => ?_)
          · refine lv_aload_n hx hb dX6_week_139 rfl (lv_at hl 0 rfl) ?_
            refine gfX6_7 hx hb hown hts hK hw 0 rfl rfl dX6_week_140 ?_
            refine lv_iconst (v := 2) hx hb dX6_week_143 (by decide) ?_
            refine zial2 (v := (zWn (zWa S)) 0 2) hx hb hK hw 1 0 2 rfl rfl rfl (by decide) (by decide) dX6_week_144 rfl ?_
            refine zias2 (f' := zflat (zU (zWn (zWa S)) 0 2 ((zWn (zWa S)) 0 2))) hx hb hK hw 1 0 2 rfl rfl rfl (by decide) (by decide) dX6_week_145 (zflat_usc (zWn (zWa S)) _ (by decide)) (fun H locs hw => ?_)
            have hw : zHw x A s.heap (zMW x a q g nu (zflat (zU (zWn (zWa S)) 0 2 ((zWn (zWa S)) 0 2)))) H locs := hw
            exact zFG.vret hx hb hr hlocks hQ hw rfl dX6_week_146 ⟨rfl, congrArg (fun z => zMW x a q g nu (zflat z)) (by unfold zWk; first | rw [if_pos c127] | rw [if_neg c127, zU_self])⟩
          · refine lv_aload_n hx hb dX6_week_130 rfl (lv_at hl 0 rfl) ?_
            refine gfX6_7 hx hb hown hts hK hw 0 rfl rfl dX6_week_131 ?_
            refine lv_iconst (v := 3) hx hb dX6_week_134 (by decide) ?_
            refine zial2 (v := (zWn (zWa S)) 0 3) hx hb hK hw 1 0 3 rfl rfl rfl (by decide) (by decide) dX6_week_135 rfl ?_
            refine lv_goto (tgt := 145) hx hb dX6_week_136 (by decide) ?_
            refine zias2 (f' := zflat (zU (zWn (zWa S)) 0 2 ((zWn (zWa S)) 0 3))) hx hb hK hw 1 0 2 rfl rfl rfl (by decide) (by decide) dX6_week_145 (zflat_usc (zWn (zWa S)) _ (by decide)) (fun H locs hw => ?_)
            have hw : zHw x A s.heap (zMW x a q g nu (zflat (zU (zWn (zWa S)) 0 2 ((zWn (zWa S)) 0 3)))) H locs := hw
            exact zFG.vret hx hb hr hlocks hQ hw rfl dX6_week_146 ⟨rfl, congrArg (fun z => zMW x a q g nu (zflat z)) (by unfold zWk; first | rw [if_pos c127] | rw [if_neg c127, zU_self])⟩
        · have hkn : k < n := zkn (((hO k (by omega)).2 0).trans (h1.trans h0)) (by omega) hk c53
          have hJ := (hO k (by omega)).1
          refine lv_aload_n hx hb dX6_week_56 rfl (lv_at hl 0 rfl) ?_
          refine lv_iload_n hx hb dX6_week_57 rfl (lv_at hl 1 rfl) ?_
          refine lv_iconst (v := 3) hx hb dX6_week_58 (by decide) ?_
          refine zcVwi (r := (zWs (zMs (zMn S) S) k) 6 k) hx hb hml hown hts hl.1 hK hE hA lkX6_74 (c_X6_its x a q g nu (zWs (zMs (zMn S) S) k) k 3 (by omega) (by omega)) ⟨Nat.le_of_ble_eq_true rfl, Nat.le_of_ble_eq_true rfl⟩ ⟨Nat.zero_le _, Nat.zero_le _⟩ hw 0 4 rfl rfl rfl rfl (Nat.le_of_ble_eq_true rfl) dX6_week_59 (fun H locs hw => ?_)
          have hw : zHw x A s.heap (zMW x a q g nu (zflat (zWs (zMs (zMn S) S) k))) H locs := hw
          refine lv_if_le (tgt := 73) hx hb dX6_week_62 (by decide) (fun c62 => ?_) (fun c62 => ?_)
          · have hz : (zWs (zMs (zMn S) S) k) 6 k = 0 := znp_eq (hJ.col 6 k (by decide) (by decide) (show k < 8 by omega)) c62 (show 2 < 1000 by decide)
            refine lv_aload_n hx hb dX6_week_73 rfl (lv_at hl 0 rfl) ?_
            refine gfX6_7 hx hb hown hts hK hw 0 rfl rfl dX6_week_74 ?_
            refine lv_iload_n hx hb dX6_week_77 rfl (lv_at hl 1 rfl) ?_
            refine lv_iconst (v := 2) hx hb dX6_week_78 (by decide) ?_
            refine zcSwi (r := nI (19 + 6 * k + 2)) hx hb hml hown hts hl.1 hK hE hA lkX6_52 (c_X6_spotOf x (zMW x a q g nu (zflat (zWs (zMs (zMn S) S) k))) k 2) ⟨Nat.le_of_ble_eq_true rfl, Nat.le_of_ble_eq_true rfl⟩ ⟨Nat.zero_le _, Nat.zero_le _⟩ hw rfl rfl (Nat.le_of_ble_eq_true rfl) dX6_week_79 (fun H locs hw => ?_)
            have hw : zHw x A s.heap (zMW x a q g nu (zflat (zWs (zMs (zMn S) S) k))) H locs := hw
            refine lv_aload_n hx hb dX6_week_82 rfl (lv_at hl 0 rfl) ?_
            refine lv_iload_n hx hb dX6_week_83 rfl (lv_at hl 1 rfl) ?_
            refine lv_iconst (v := 2) hx hb dX6_week_84 (by decide) ?_
            refine zcVwi (r := (zWs (zMs (zMn S) S) k) 5 k) hx hb hml hown hts hl.1 hK hE hA lkX6_74 (c_X6_its x a q g nu (zWs (zMs (zMn S) S) k) k 2 (by omega) (by omega)) ⟨Nat.le_of_ble_eq_true rfl, Nat.le_of_ble_eq_true rfl⟩ ⟨Nat.zero_le _, Nat.zero_le _⟩ hw 0 4 rfl rfl rfl rfl (Nat.le_of_ble_eq_true rfl) dX6_week_85 (fun H locs hw => ?_)
            have hw : zHw x A s.heap (zMW x a q g nu (zflat (zWs (zMs (zMn S) S) k))) H locs := hw
            refine lv_aload_n hx hb dX6_week_88 rfl (lv_at hl 0 rfl) ?_
            refine lv_iload_n hx hb dX6_week_89 rfl (lv_at hl 1 rfl) ?_
            refine zcVwi (r := zGs (zWs (zMs (zMn S) S) k) k) hx hb hml hown hts hl.1 hK hE hA lkX6_103 (c_X6_growsOf x a q g nu (zWs (zMs (zMn S) S) k) k hJ (by omega)) ⟨Nat.le_of_ble_eq_true rfl, Nat.le_of_ble_eq_true rfl⟩ ⟨Nat.zero_le _, Nat.zero_le _⟩ hw 0 4 rfl rfl rfl rfl (Nat.le_of_ble_eq_true rfl) dX6_week_90 (fun H locs hw => ?_)
            have hw : zHw x A s.heap (zMW x a q g nu (zflat (zWs (zMs (zMn S) S) k))) H locs := hw
            refine lv_iadd hx hb dX6_week_93 ?_
            refine lv_bipush (v := 99) hx hb dX6_week_94 (by decide) ?_
            refine zcSwi (r := zHt (((zWs (zMs (zMn S) S) k) 5 k) + (zGs (zWs (zMs (zMn S) S) k) k)) 99) hx hb hml hown hts hl.1 hK hE hA lkX6_126 (c_X6_heldTo x (zMW x a q g nu (zflat (zWs (zMs (zMn S) S) k))) (((zWs (zMs (zMn S) S) k) 5 k) + (zGs (zWs (zMs (zMn S) S) k) k)) 99) ⟨Nat.le_of_ble_eq_true rfl, Nat.le_of_ble_eq_true rfl⟩ ⟨Nat.zero_le _, Nat.zero_le _⟩ hw rfl rfl (Nat.le_of_ble_eq_true rfl) dX6_week_96 (fun H locs hw => ?_)
            have hw : zHw x A s.heap (zMW x a q g nu (zflat (zWs (zMs (zMn S) S) k))) H locs := hw
            refine zias2 (f' := zflat (zU (zWs (zMs (zMn S) S) k) 5 k (zHt (((zWs (zMs (zMn S) S) k) 5 k) + (zGs (zWs (zMs (zMn S) S) k) k)) 99))) hx hb hK hw 1 0 (19 + 6 * k + 2) rfl rfl rfl (by omega) (by decide) dX6_week_99 (zflat_uit (zWs (zMs (zMn S) S) k) _ (by omega)) (fun H locs hw => ?_)
            have hw : zHw x A s.heap (zMW x a q g nu (zflat (zU (zWs (zMs (zMn S) S) k) 5 k (zHt (((zWs (zMs (zMn S) S) k) 5 k) + (zGs (zWs (zMs (zMn S) S) k) k)) 99)))) H locs := hw
            have hw : zHw x A s.heap (zMW x a q g nu (zflat (zWs (zMs (zMn S) S) (k + 1)))) H locs := hw.re (congrArg (fun z => zMW x a q g nu (zflat z)) (if_pos hz).symm)
            refine lv_iinc (v := nI (k + 1)) (lv' := [(2, .int (nI (k + 1))), (0, .ref (a 0))]) hx hb dX6_week_100 hl (k := 1) rfl (nI_1 k) (by decide) rfl (fun ls hl => ?_)
            refine lv_goto (tgt := 46) hx hb dX6_week_103 (by decide) ?_
            exact ih46 (k + 1) (by omega) (by omega) _ _ _ hw (lv_sub hl [1, 0] rfl)
          · have hz : ¬ (zWs (zMs (zMn S) S) k) 6 k = 0 := zpos_ne c62
            refine lv_aload_n hx hb dX6_week_65 rfl (lv_at hl 0 rfl) ?_
            refine lv_iload_n hx hb dX6_week_66 rfl (lv_at hl 1 rfl) ?_
            refine zcVwv hx hb hml hown hts hl.1 hK hE hA lkX6_143 (c_X6_ages x a q g nu (zWs (zMs (zMn S) S) k) k (by omega)) ⟨Nat.le_of_ble_eq_true rfl, Nat.le_of_ble_eq_true rfl⟩ ⟨Nat.zero_le _, Nat.zero_le _⟩ hw 0 4 rfl rfl rfl rfl (Nat.le_of_ble_eq_true rfl) dX6_week_67 (fun H locs hw => ?_)
            have hw : zHw x A s.heap (zMW x a q g nu (zflat (zWs (zMs (zMn S) S) (k + 1)))) H locs := hw.re (congrArg (fun z => zMW x a q g nu (zflat z)) (if_neg hz).symm)
            refine lv_goto (tgt := 100) hx hb dX6_week_70 (by decide) ?_
            refine lv_iinc (v := nI (k + 1)) (lv' := [(2, .int (nI (k + 1))), (0, .ref (a 0))]) hx hb dX6_week_100 hl (k := 1) rfl (nI_1 k) (by decide) rfl (fun ls hl => ?_)
            refine lv_goto (tgt := 46) hx hb dX6_week_103 (by decide) ?_
            exact ih46 (k + 1) (by omega) (by omega) _ _ _ hw (lv_sub hl [1, 0] rfl)
    exact loop46 (_ + 1) 0 (Nat.lt_succ_self _) (Nat.zero_le _) _ _ _ hw (lv_sub hl [1, 0] rfl)
  refine lv_aload_n hx hb dX6_week_0 rfl (lv_at hl 0 rfl) ?_
  refine zcVwi (r := zo (zNb S (zN S))) hx hb hml hown hts hl.1 hK hE hA lkX6_139 (c_X6_nextOne x a q g nu S hI) ⟨Nat.le_of_ble_eq_true rfl, Nat.le_of_ble_eq_true rfl⟩ ⟨Nat.zero_le _, Nat.zero_le _⟩ hw 0 4 rfl rfl rfl rfl (Nat.le_of_ble_eq_true rfl) dX6_week_1 (fun H locs hw => ?_)
  have hw : zHw x A s.heap (zMW x a q g nu (zflat S)) H locs := hw
  refine lv_istore_n (lv' := [(1, .int (zo (zNb S (zN S)))), (0, .ref (a 0))]) hx hb dX6_week_4 rfl hl (by decide) rfl (fun ls hl => ?_)
  refine lv_iconst (v := 0) hx hb dX6_week_5 (by decide) ?_
  refine lv_istore_n (lv' := [(2, .int 0), (1, .int (zo (zNb S (zN S)))), (0, .ref (a 0))]) hx hb dX6_week_6 rfl hl (by decide) rfl (fun ls hl => ?_)
  have loop7 : ∀ (dd : Nat) (i : Nat) (T : zT), mn - i < dd → (hi : i ≤ mn) → (hJ : zInv T) → (h4 : T 0 4 = nI mn) → (e1 : zMs (mn - i) T = zMs mn S) → ∀ (H : Heap) (locs : List Loc) (ls : Array Slot), zHw x A s.heap (zMW x a q g nu (zflat T)) H locs → lv_has ls 4 [(0, .ref (a 0)), (1, .int (zo (zNb T (zN T)))), (2, .int (nI i))] → W p x.1 e (zRM 6) s m ar below meth c H locs 0 0 Q (F0 m 7 ls []) := by
    intro dd
    induction dd with
    | zero => intro i T hm; exact absurd hm (Nat.not_lt_zero _)
    | succ dd ih7 =>
      intro i T hm hi hJ h4 e1 H locs ls hw hl
      refine lv_iload_n hx hb dX6_week_7 rfl (lv_at hl 2 rfl) ?_
      refine lv_aload_n hx hb dX6_week_8 rfl (lv_at hl 0 rfl) ?_
      refine gfX6_7 hx hb hown hts hK hw 0 rfl rfl dX6_week_9 ?_
      refine lv_iconst (v := 4) hx hb dX6_week_12 (by decide) ?_
      refine zial2 (v := T 0 4) hx hb hK hw 1 0 4 rfl rfl rfl (by decide) (by decide) dX6_week_13 rfl ?_
      refine lv_icmp_ge (tgt := 44) hx hb dX6_week_14 (by decide) (fun c14 => ?_) (fun c14 => ?_)
      · exact K44   _ _ _ (hw.re (by rw [hM, ← e1, show mn - i = 0 from by have := zke h4 (by omega) hi c14; omega]; rfl)) (lv_sub hl [0] rfl)
      · have him : i < mn := zkn h4 (by omega) hi c14
        have hj : mn - i = (mn - (i + 1)) + 1 := by omega
        have hw1 := zhot hJ
        rcases hbb : zNb T (zN T) with _ | b
        · have hl : lv_has ls 4 [(0, .ref (a 0)), (1, .int (-1)), (2, .int (nI i))] := by
            rw [show (-1) = zo (zNb T (zN T)) from (by rw [hbb]; rfl)]; exact hl
          have him : i < mn := zkn h4 (by omega) hi c14
          have hj : mn - i = (mn - (i + 1)) + 1 := by omega
          have hw1 := zhot hJ
          refine lv_iload_n hx hb dX6_week_17 rfl (lv_at hl 1 rfl) ?_
          refine lv_if_lt (tgt := 44) hx hb dX6_week_18 (by decide) (fun c18 => ?_) (fun c18 => absurd (by decide) c18)
          exact K44   _ _ _ (hw.re (by rw [hM, ← e1, hj]; simp only [zMs, hbb])) (lv_sub hl [0] rfl)
        · have hbm := zNb_lt T _ b hbb
          have hb8 := zN_le hJ
          have hl : lv_has ls 4 [(0, .ref (a 0)), (1, .int (nI b)), (2, .int (nI i))] := by
            rw [show nI b = zo (zNb T (zN T)) from (by rw [hbb]; rfl)]; exact hl
          have him : i < mn := zkn h4 (by omega) hi c14
          have hj : mn - i = (mn - (i + 1)) + 1 := by omega
          have hw1 := zhot hJ
          refine lv_iload_n hx hb dX6_week_17 rfl (lv_at hl 1 rfl) ?_
          refine lv_if_lt (tgt := 44) hx hb dX6_week_18 (by decide) (fun c18 => absurd c18 (nI_pos (by omega))) (fun c18 => ?_)
          refine lv_aload_n hx hb dX6_week_21 rfl (lv_at hl 0 rfl) ?_
          refine lv_iload_n hx hb dX6_week_22 rfl (lv_at hl 1 rfl) ?_
          refine lv_aload_n hx hb dX6_week_23 rfl (lv_at hl 0 rfl) ?_
          refine gfX6_7 hx hb hown hts hK hw 0 rfl rfl dX6_week_24 ?_
          refine lv_iconst (v := 5) hx hb dX6_week_27 (by decide) ?_
          refine zial2 (v := T 0 5) hx hb hK hw 1 0 5 rfl rfl rfl (by decide) (by decide) dX6_week_28 rfl ?_
          refine zcVwi (r := zPs T b (T 0 5)) hx hb hml hown hts hl.1 hK hE hA lkX6_132 (c_X6_fills x a q g nu T b (T 0 5) (by omega) hw1) ⟨Nat.le_of_ble_eq_true rfl, Nat.le_of_ble_eq_true rfl⟩ ⟨Nat.zero_le _, Nat.zero_le _⟩ hw 0 4 rfl rfl rfl rfl (Nat.le_of_ble_eq_true rfl) dX6_week_29 (fun H locs hw => ?_)
          have hw : zHw x A s.heap (zMW x a q g nu (zflat (zFi T b (T 0 5)))) H locs := hw
          refine lv_istore_n (lv' := [(3, .int (zPs T b (T 0 5))), (0, .ref (a 0)), (1, .int (nI b)), (2, .int (nI i))]) hx hb dX6_week_32 rfl hl (by decide) rfl (fun ls hl => ?_)
          refine lv_aload_n hx hb dX6_week_33 rfl (lv_at hl 1 rfl) ?_
          refine zcVwi (r := zo (zNb (zFi T b (T 0 5)) (zN (zFi T b (T 0 5))))) hx hb hml hown hts hl.1 hK hE hA lkX6_139 (c_X6_nextOne x a q g nu (zFi T b (T 0 5)) (zFi_inv hJ (by omega) hbm.2.2)) ⟨Nat.le_of_ble_eq_true rfl, Nat.le_of_ble_eq_true rfl⟩ ⟨Nat.zero_le _, Nat.zero_le _⟩ hw 0 4 rfl rfl rfl rfl (Nat.le_of_ble_eq_true rfl) dX6_week_34 (fun H locs hw => ?_)
          have hw : zHw x A s.heap (zMW x a q g nu (zflat (zFi T b (T 0 5)))) H locs := hw
          refine lv_istore_n (lv' := [(1, .int (zo (zNb (zFi T b (T 0 5)) (zN (zFi T b (T 0 5)))))), (3, .int (zPs T b (T 0 5))), (0, .ref (a 0)), (2, .int (nI i))]) hx hb dX6_week_37 rfl hl (by decide) rfl (fun ls hl => ?_)
          refine lv_iinc (v := nI (i + 1)) (lv' := [(2, .int (nI (i + 1))), (1, .int (zo (zNb (zFi T b (T 0 5)) (zN (zFi T b (T 0 5)))))), (3, .int (zPs T b (T 0 5))), (0, .ref (a 0))]) hx hb dX6_week_38 hl (k := 3) rfl (nI_1 i) (by decide) rfl (fun ls hl => ?_)
          refine lv_goto (tgt := 7) hx hb dX6_week_41 (by decide) ?_
          exact ih7 (i + 1) (zFi T b (T 0 5)) (by omega) him (zFi_inv hJ (by omega) hbm.2.2) h4 (by rw [← e1, hj]; exact (by simp only [zMs, hbb])) _ _ _ hw (lv_sub hl [3, 1, 0] rfl)
  exact loop7 (_ + 1) 0 S (Nat.lt_succ_self _) (Nat.zero_le _) hI hm rfl _ _ _ hw (lv_sub hl [2, 1, 0] rfl)

set_option maxHeartbeats 4000000 in
set_option maxRecDepth 100000 in
theorem c_X6_weeksGo (x : zX) (a : Nat → Nat) (q : Nat → Int32) (g : zT) (nu : Nat → Nat → Int64) (S : zT) (n : Nat) (hI : zInv S) (hn : n < 2147483648) : zFF x mX6_weeksGo 7 [.ref (a 0), .int (nI n)] (zMW x a q g nu (zflat S)) none (zMW x a q g nu (zflat (zGo n S))) := by
  refine zFG.start RX6 cX6_weeksGo 3 none rfl rfl (by decide +kernel) (Nat.le_of_ble_eq_true rfl) ?_
  intro p e s m ar below meth c ls A Q hx hb hr hml hown hts hlocks hK hE hA hQ hl hw
  have hl : lv_has ls 3 [(0, .ref (a 0)), (1, .int (nI n))] := hl
  have hw : zHw x A s.heap (zMW x a q g nu (zflat S)) s.heap [] := hw
  refine lv_iconst (v := 0) hx hb dX6_weeksGo_0 (by decide) ?_
  refine lv_istore_n (lv' := [(2, .int 0), (0, .ref (a 0)), (1, .int (nI n))]) hx hb dX6_weeksGo_1 rfl hl (by decide) rfl (fun ls hl => ?_)
  have loop2 : ∀ (dd : Nat) (i : Nat) (T : zT), n - i < dd → (hi : i ≤ n) → (hJ : zInv T) → (e1 : zGo (n - i) T = zGo n S) → ∀ (H : Heap) (locs : List Loc) (ls : Array Slot), zHw x A s.heap (zMW x a q g nu (zflat T)) H locs → lv_has ls 3 [(0, .ref (a 0)), (1, .int (nI n)), (2, .int (nI i))] → W p x.1 e (zRM 7) s m ar below meth c H locs 0 0 Q (F0 m 2 ls []) := by
    intro dd
    induction dd with
    | zero => intro i T hm; exact absurd hm (Nat.not_lt_zero _)
    | succ dd ih2 =>
      intro i T hm hi hJ e1 H locs ls hw hl
      refine lv_iload_n hx hb dX6_weeksGo_2 rfl (lv_at hl 2 rfl) ?_
      refine lv_iload_n hx hb dX6_weeksGo_3 rfl (lv_at hl 1 rfl) ?_
      refine lv_icmp_ge (tgt := 17) hx hb dX6_weeksGo_4 (by decide) (fun c4 => ?_) (fun c4 => ?_)
      · exact zFG.vret hx hb hr hlocks hQ hw rfl dX6_weeksGo_17 ⟨rfl, by rw [← e1, show n - i = 0 from by have := zke rfl hn hi c4; omega]; rfl⟩
      · have him : i < n := zkn rfl hn hi c4
        have hj : n - i = (n - (i + 1)) + 1 := by omega
        refine lv_aload_n hx hb dX6_weeksGo_7 rfl (lv_at hl 0 rfl) ?_
        refine zcVwv hx hb hml hown hts hl.1 hK hE hA lkX6_147 (c_X6_week x a q g nu T hJ) ⟨Nat.le_of_ble_eq_true rfl, Nat.le_of_ble_eq_true rfl⟩ ⟨Nat.zero_le _, Nat.zero_le _⟩ hw 0 4 rfl rfl rfl rfl (Nat.le_of_ble_eq_true rfl) dX6_weeksGo_8 (fun H locs hw => ?_)
        have hw : zHw x A s.heap (zMW x a q g nu (zflat (zWk T))) H locs := hw
        refine lv_iinc (v := nI (i + 1)) (lv' := [(2, .int (nI (i + 1))), (0, .ref (a 0)), (1, .int (nI n))]) hx hb dX6_weeksGo_11 hl (k := 2) rfl (nI_1 i) (by decide) rfl (fun ls hl => ?_)
        refine lv_goto (tgt := 2) hx hb dX6_weeksGo_14 (by decide) ?_
        exact ih2 (i + 1) (zWk T) (by omega) him ((zWk_ok hJ).1) (by rw [← e1, hj]; rfl) _ _ _ hw (lv_sub hl [1, 2, 0] rfl)
  exact loop2 (_ + 1) 0 S (Nat.lt_succ_self _) (Nat.zero_le _) hI rfl _ _ _ hw (lv_sub hl [1, 2, 0] rfl)

set_option maxHeartbeats 4000000 in
set_option maxRecDepth 100000 in
theorem c_X6_sizesOf (x : zX) (a : Nat → Nat) (q : Nat → Int32) (g : zT) (nu : Nat → Nat → Int64) (S : zT) (Pd : Nat → Bool) (hI : zInv S) : zFF x mX6_sizesOf 2 [.ref (a 0), .int (zBi Pd (zN S))] (zMW x a q g nu (zflat S)) (some (.int (zSu Pd (S 5) (zN S)))) (zMW x a q g nu (zflat S)) := by
  obtain ⟨n, hn, h0⟩ := hI.holes
  have hN : zN S = n := zN_of hn h0
  refine zFG.start RX6 cX6_sizesOf 4 (some .int) rfl rfl (by decide +kernel) (Nat.le_of_ble_eq_true rfl) ?_
  intro p e s m ar below meth c ls A Q hx hb hr hml hown hts hlocks hK hE hA hQ hl hw
  have hl : lv_has ls 4 [(0, .ref (a 0)), (1, .int (zBi Pd (zN S)))] := hl
  have hw : zHw x A s.heap (zMW x a q g nu (zflat S)) s.heap [] := hw
  refine lv_iconst (v := 0) hx hb dX6_sizesOf_0 (by decide) ?_
  refine lv_istore_n (lv' := [(2, .int 0), (0, .ref (a 0)), (1, .int (zBi Pd (zN S)))]) hx hb dX6_sizesOf_1 rfl hl (by decide) rfl (fun ls hl => ?_)
  refine lv_iconst (v := 0) hx hb dX6_sizesOf_2 (by decide) ?_
  refine lv_istore_n (lv' := [(3, .int 0), (2, .int 0), (0, .ref (a 0)), (1, .int (zBi Pd (zN S)))]) hx hb dX6_sizesOf_3 rfl hl (by decide) rfl (fun ls hl => ?_)
  have loop4 : ∀ (dd : Nat) (k : Nat), n - k < dd → (hk : k ≤ n) → ∀ (H : Heap) (locs : List Loc) (ls : Array Slot), zHw x A s.heap (zMW x a q g nu (zflat S)) H locs → lv_has ls 4 [(0, .ref (a 0)), (1, .int (zBi Pd (zN S))), (2, .int (zSu Pd (S 5) k)), (3, .int (nI k))] → W p x.1 e (zRM 2) s m ar below meth c H locs 0 0 Q (F0 m 4 ls []) := by
    intro dd
    induction dd with
    | zero => intro k hm; exact absurd hm (Nat.not_lt_zero _)
    | succ dd ih4 =>
      intro k hm hk H locs ls hw hl
      refine lv_iload_n hx hb dX6_sizesOf_4 rfl (lv_at hl 3 rfl) ?_
      refine lv_aload_n hx hb dX6_sizesOf_5 rfl (lv_at hl 0 rfl) ?_
      refine gfX6_7 hx hb hown hts hK hw 0 rfl rfl dX6_sizesOf_6 ?_
      refine lv_iconst (v := 0) hx hb dX6_sizesOf_9 (by decide) ?_
      refine zial2 (v := S 0 0) hx hb hK hw 1 0 0 rfl rfl rfl (by decide) (by decide) dX6_sizesOf_10 rfl ?_
      refine lv_icmp_ge (tgt := 42) hx hb dX6_sizesOf_11 (by decide) (fun c11 => ?_) (fun c11 => ?_)
      · have hke : k = n := zke h0 (by omega) hk c11
        refine lv_iload_n hx hb dX6_sizesOf_42 rfl (lv_at hl 2 rfl) ?_
        exact zFG.iret hx hb hr hlocks hQ hw rfl dX6_sizesOf_43 ⟨zsi (by rw [hN, ← hke]), rfl⟩
      · have hkn : k < n := zkn h0 (by omega) hk c11
        have hbit := zBi_bit Pd (h := k) (k := zN S) (by omega) (by omega)
        refine lv_iload_n hx hb dX6_sizesOf_14 rfl (lv_at hl 2 rfl) ?_
        refine lv_iload_n hx hb dX6_sizesOf_15 rfl (lv_at hl 1 rfl) ?_
        refine lv_iload_n hx hb dX6_sizesOf_16 rfl (lv_at hl 3 rfl) ?_
        refine lv_ishr hx hb dX6_sizesOf_17 ?_
        refine lv_iconst (v := 1) hx hb dX6_sizesOf_18 (by decide) ?_
        refine lv_iand hx hb dX6_sizesOf_19 ?_
        refine lv_iconst (v := 1) hx hb dX6_sizesOf_20 (by decide) ?_
        refine lv_icmp_ne (tgt := 33) hx hb dX6_sizesOf_21 (by decide) (fun c21 => ?_) (fun c21 => ?_)
        · refine lv_iconst (v := 0) hx hb dX6_sizesOf_33 (by decide) ?_
          refine lv_iadd hx hb dX6_sizesOf_34 ?_
          refine lv_istore_n (lv' := [(2, .int ((zSu Pd (S 5) k) + 0)), (0, .ref (a 0)), (1, .int (zBi Pd (zN S))), (3, .int (nI k))]) hx hb dX6_sizesOf_35 rfl hl (by decide) rfl (fun ls hl => ?_)
          have hl : lv_has ls 4 [(2, .int (zSu Pd (S 5) (k + 1))), (0, .ref (a 0)), (1, .int (zBi Pd (zN S))), (3, .int (nI k))] := by
            rw [show zSu Pd (S 5) (k + 1) = (zSu Pd (S 5) k) + 0 from (by first | (exact if_pos (hbit.mp c21)) | (rw [zadd0]; exact if_neg (fun h => c21 (hbit.mpr h))))]; exact hl
          refine lv_iinc (v := nI (k + 1)) (lv' := [(3, .int (nI (k + 1))), (2, .int (zSu Pd (S 5) (k + 1))), (0, .ref (a 0)), (1, .int (zBi Pd (zN S)))]) hx hb dX6_sizesOf_36 hl (k := 3) rfl (nI_1 k) (by decide) rfl (fun ls hl => ?_)
          refine lv_goto (tgt := 4) hx hb dX6_sizesOf_39 (by decide) ?_
          exact ih4 (k + 1) (by omega) (by omega) _ _ _ hw (lv_sub hl [2, 3, 1, 0] rfl)
        · refine lv_aload_n hx hb dX6_sizesOf_24 rfl (lv_at hl 0 rfl) ?_
          refine lv_iload_n hx hb dX6_sizesOf_25 rfl (lv_at hl 3 rfl) ?_
          refine lv_iconst (v := 2) hx hb dX6_sizesOf_26 (by decide) ?_
          refine zcVwi (r := S 5 k) hx hb hml hown hts hl.1 hK hE hA lkX6_74 (c_X6_its x a q g nu S k 2 (by omega) (by omega)) ⟨Nat.le_of_ble_eq_true rfl, Nat.le_of_ble_eq_true rfl⟩ ⟨Nat.zero_le _, Nat.zero_le _⟩ hw 0 4 rfl rfl rfl rfl (Nat.le_of_ble_eq_true rfl) dX6_sizesOf_27 (fun H locs hw => ?_)
          have hw : zHw x A s.heap (zMW x a q g nu (zflat S)) H locs := hw
          refine lv_goto (tgt := 34) hx hb dX6_sizesOf_30 (by decide) ?_
          refine lv_iadd hx hb dX6_sizesOf_34 ?_
          refine lv_istore_n (lv' := [(2, .int ((zSu Pd (S 5) k) + (S 5 k))), (0, .ref (a 0)), (1, .int (zBi Pd (zN S))), (3, .int (nI k))]) hx hb dX6_sizesOf_35 rfl hl (by decide) rfl (fun ls hl => ?_)
          have hl : lv_has ls 4 [(2, .int (zSu Pd (S 5) (k + 1))), (0, .ref (a 0)), (1, .int (zBi Pd (zN S))), (3, .int (nI k))] := by
            rw [show zSu Pd (S 5) (k + 1) = (zSu Pd (S 5) k) + (S 5 k) from (by first | (exact if_pos (hbit.mp c21)) | (rw [zadd0]; exact if_neg (fun h => c21 (hbit.mpr h))))]; exact hl
          refine lv_iinc (v := nI (k + 1)) (lv' := [(3, .int (nI (k + 1))), (2, .int (zSu Pd (S 5) (k + 1))), (0, .ref (a 0)), (1, .int (zBi Pd (zN S)))]) hx hb dX6_sizesOf_36 hl (k := 3) rfl (nI_1 k) (by decide) rfl (fun ls hl => ?_)
          refine lv_goto (tgt := 4) hx hb dX6_sizesOf_39 (by decide) ?_
          exact ih4 (k + 1) (by omega) (by omega) _ _ _ hw (lv_sub hl [2, 3, 1, 0] rfl)
  exact loop4 (_ + 1) 0 (Nat.lt_succ_self _) (Nat.zero_le _) _ _ _ hw (lv_sub hl [2, 3, 1, 0] rfl)

set_option maxHeartbeats 4000000 in
set_option maxRecDepth 100000 in
theorem c_X6_worseNow (x : zX) (a : Nat → Nat) (q : Nat → Int32) (g : zT) (nu : Nat → Nat → Int64) (S : zT) (hI : zInv S) : zFF x mX6_worseNow 3 [.ref (a 0)] (zMW x a q g nu (zflat S)) (some (.int (zWr S))) (zMW x a q g nu (zflat S)) := by
  refine zFG.start RX6 cX6_worseNow 1 (some .int) rfl rfl (by decide +kernel) (Nat.le_of_ble_eq_true rfl) ?_
  intro p e s m ar below meth c ls A Q hx hb hr hml hown hts hlocks hK hE hA hQ hl hw
  have hl : lv_has ls 1 [(0, .ref (a 0))] := hl
  have hw : zHw x A s.heap (zMW x a q g nu (zflat S)) s.heap [] := hw
  refine lv_aload_n hx hb dX6_worseNow_0 rfl (lv_at hl 0 rfl) ?_
  refine lv_aload_n hx hb dX6_worseNow_1 rfl (lv_at hl 0 rfl) ?_
  refine lv_iconst (v := 3) hx hb dX6_worseNow_2 (by decide) ?_
  refine lv_iconst (v := 0) hx hb dX6_worseNow_3 (by decide) ?_
  refine zcVwi (r := zBi (fun h => decide (S 6 h = 0)) (zN S)) hx hb hml hown hts hl.1 hK hE hA lkX6_77 (c_X6_thoseAs x a q g nu S 3 0 hI (by decide)) ⟨Nat.le_of_ble_eq_true rfl, Nat.le_of_ble_eq_true rfl⟩ ⟨Nat.zero_le _, Nat.zero_le _⟩ hw 0 4 rfl rfl rfl rfl (Nat.le_of_ble_eq_true rfl) dX6_worseNow_4 (fun H locs hw => ?_)
  have hw : zHw x A s.heap (zMW x a q g nu (zflat S)) H locs := hw
  refine zcVwi (r := zSu (fun h => decide (S 6 h = 0)) (S 5) (zN S)) hx hb hml hown hts hl.1 hK hE hA lkX6_155 (c_X6_sizesOf x a q g nu S (fun h => decide (S 6 h = 0)) hI) ⟨Nat.le_of_ble_eq_true rfl, Nat.le_of_ble_eq_true rfl⟩ ⟨Nat.zero_le _, Nat.zero_le _⟩ hw 0 4 rfl rfl rfl rfl (Nat.le_of_ble_eq_true rfl) dX6_worseNow_7 (fun H locs hw => ?_)
  have hw : zHw x A s.heap (zMW x a q g nu (zflat S)) H locs := hw
  exact zFG.iret hx hb hr hlocks hQ hw rfl dX6_worseNow_10 ⟨rfl, rfl⟩

set_option maxHeartbeats 4000000 in
set_option maxRecDepth 100000 in
theorem c_X6_worseIn (x : zX) (a : Nat → Nat) (q : Nat → Int32) (g : zT) (nu : Nat → Nat → Int64) (S : zT) (n : Nat) (hI : zInv S) (hn : n < 2147483648) : zFF x mX6_worseIn 8 [.ref (a 0), .int (nI n)] (zMW x a q g nu (zflat S)) (some (.int (zWr (zGo n S)))) (zMW x a q (zV g 4 (zflat S)) nu (zflat S)) := by
  refine zFG.start RX6 cX6_worseIn 2 (some .int) rfl rfl (by decide +kernel) (Nat.le_of_ble_eq_true rfl) ?_
  intro p e s m ar below meth c ls A Q hx hb hr hml hown hts hlocks hK hE hA hQ hl hw
  have hl : lv_has ls 2 [(0, .ref (a 0)), (1, .int (nI n))] := hl
  have hw : zHw x A s.heap (zMW x a q g nu (zflat S)) s.heap [] := hw
  refine lv_aload_n hx hb dX6_worseIn_0 rfl (lv_at hl 0 rfl) ?_
  refine zcVwv hx hb hml hown hts hl.1 hK hE hA lkX6_165 (c_X6_laysAside x a q g nu (zflat S)) ⟨Nat.le_of_ble_eq_true rfl, Nat.le_of_ble_eq_true rfl⟩ ⟨Nat.zero_le _, Nat.zero_le _⟩ hw 0 4 rfl rfl rfl rfl (Nat.le_of_ble_eq_true rfl) dX6_worseIn_1 (fun H locs hw => ?_)
  have hw : zHw x A s.heap (zMW x a q (zV g 4 (zflat S)) nu (zflat S)) H locs := hw
  refine lv_aload_n hx hb dX6_worseIn_4 rfl (lv_at hl 0 rfl) ?_
  refine lv_iload_n hx hb dX6_worseIn_5 rfl (lv_at hl 1 rfl) ?_
  refine zcVwv hx hb hml hown hts hl.1 hK hE hA lkX6_152 (c_X6_weeksGo x a q (zV g 4 (zflat S)) nu S n hI (by omega)) ⟨Nat.le_of_ble_eq_true rfl, Nat.le_of_ble_eq_true rfl⟩ ⟨Nat.zero_le _, Nat.zero_le _⟩ hw 0 4 rfl rfl rfl rfl (Nat.le_of_ble_eq_true rfl) dX6_worseIn_6 (fun H locs hw => ?_)
  have hw : zHw x A s.heap (zMW x a q (zV g 4 (zflat S)) nu (zflat (zGo n S))) H locs := hw
  refine lv_aload_n hx hb dX6_worseIn_9 rfl (lv_at hl 0 rfl) ?_
  refine lv_aload_n hx hb dX6_worseIn_10 rfl (lv_at hl 0 rfl) ?_
  refine zcVwi (r := zWr (zGo n S)) hx hb hml hown hts hl.1 hK hE hA lkX6_158 (c_X6_worseNow x a q (zV g 4 (zflat S)) nu (zGo n S) (zGo_ok n hI).1) ⟨Nat.le_of_ble_eq_true rfl, Nat.le_of_ble_eq_true rfl⟩ ⟨Nat.zero_le _, Nat.zero_le _⟩ hw 0 4 rfl rfl rfl rfl (Nat.le_of_ble_eq_true rfl) dX6_worseIn_11 (fun H locs hw => ?_)
  have hw : zHw x A s.heap (zMW x a q (zV g 4 (zflat S)) nu (zflat (zGo n S))) H locs := hw
  refine zcVwi (r := zWr (zGo n S)) hx hb hml hown hts hl.1 hK hE hA lkX6_168 (c_X6_takesBack x a q (zV g 4 (zflat S)) nu (zflat (zGo n S)) (zWr (zGo n S))) ⟨Nat.le_of_ble_eq_true rfl, Nat.le_of_ble_eq_true rfl⟩ ⟨Nat.zero_le _, Nat.zero_le _⟩ hw 0 4 rfl rfl rfl rfl (Nat.le_of_ble_eq_true rfl) dX6_worseIn_14 (fun H locs hw => ?_)
  have hw : zHw x A s.heap (zMW x a q (zV g 4 (zflat S)) nu (zflat S)) H locs := hw
  exact zFG.iret hx hb hr hlocks hQ hw rfl dX6_worseIn_17 ⟨rfl, rfl⟩
