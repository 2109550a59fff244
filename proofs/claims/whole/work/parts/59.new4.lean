/-! CONSTRUCTORS: sheet, tape, town -/
set_option maxHeartbeats 4000000 in
set_option maxRecDepth 100000 in
/-- a sheet -/
theorem c_X1_init (x : zX) (h0 : Nat) : zFN x mX1_init 1 1 40 [.ref h0] ([(h0, .inr (0, [.int 0, .int 0, .null]))]) (fun u => ∃ n : Nat, u = zSH x h0 n 0 0 (fun _ => 0)) := by
  refine zFN.start RX1 cX1_init 1 rfl rfl rfl (by decide +kernel) (Nat.le_of_ble_eq_true rfl) ?_
  intro p e s m ar below meth c ls A Q hx hb hr hml hown hts hlocks hin hK hE hA hQ hl hw
  have hl : lv_has ls 1 [(0, .ref h0)] := hl
  have hw : zHw x A s.heap ([(h0, .inr (0, [.int 0, .int 0, .null]))]) s.heap [] := hw
  refine lv_aload_n hx hb dX1_init_0 rfl (lv_at hl 0 rfl) ?_
  refine zobj hx hb hml hown hts hl.1 zobX1 ⟨Nat.le_of_ble_eq_true rfl, Nat.le_of_ble_eq_true rfl⟩ (Nat.le_of_ble_eq_true rfl) dX1_init_1 ?_
  refine lv_aload_n hx hb dX1_init_4 rfl (lv_at hl 0 rfl) ?_
  refine lv_iconst (v := 0) hx hb dX1_init_5 (by decide) ?_
  refine pfX1_9 hx hb hown hts hK hw 0 rfl (Nat.le_of_ble_eq_true rfl) dX1_init_6 (fun H locs hw => ?_)
  have hw : zHw x A s.heap ([(h0, .inr (0, [.int 0, .int 0, .null]))]) H locs := hw
  refine lv_aload_n hx hb dX1_init_9 rfl (lv_at hl 0 rfl) ?_
  refine lv_iconst (v := 0) hx hb dX1_init_10 (by decide) ?_
  refine pfX1_15 hx hb hown hts hK hw 0 rfl (Nat.le_of_ble_eq_true rfl) dX1_init_11 (fun H locs hw => ?_)
  have hw : zHw x A s.heap ([(h0, .inr (0, [.int 0, .int 0, .null]))]) H locs := hw
  refine lv_aload_n hx hb dX1_init_14 rfl (lv_at hl 0 rfl) ?_
  refine lv_bipush (v := 40) hx hb dX1_init_15 (by decide) ?_
  refine znewL (N := 40) hx hb hts hK hA hw (by decide) (by decide) (by decide) (Nat.le_of_ble_eq_true rfl) (Nat.le_of_ble_eq_true rfl) dX1_init_17 (fun q1 H hw => ?_)
  have hw : zHw x A s.heap ([(h0, .inr (0, [.int 0, .int 0, .null])), (q1, .inl (zJ x, 40, .inr (.inl (fun _ => 0))))]) H locs := hw
  refine va_putF (D := zD x) (ci := 0) (v := .ref q1) (ty := (.array .long)) (C := RX1) (T := TX1) (N := 3) hx hb hts inX1 tyX1 tyX1_ok nmX1 hown hK hw.P hw.D hw.S 0 rfl rfl 2 (Nat.le_of_ble_eq_true rfl) (hts _ fkX1_18) (fun _ h9 => h9) rfl hin rfl (by decide +kernel) rfl rfl (Nat.le_of_ble_eq_true rfl) dX1_init_19 (fun H locs h1 h2 h3 => ?_)
  have hw : zHw x A s.heap ([(h0, .inr (0, [.int 0, .int 0, .ref q1])), (q1, .inl (zJ x, 40, .inr (.inl (fun _ => 0))))]) H locs := ⟨h1, h2, h3⟩
  refine W.widen (k := 1) (n := 40) (Nat.le_of_ble_eq_true rfl) (Nat.le_of_ble_eq_true rfl) ?_
  exact zFN.vret hx hb hr hlocks hQ hw dX1_init_22 ⟨q1, rfl⟩
set_option maxHeartbeats 4000000 in
set_option maxRecDepth 100000 in
/-- the tape -/
theorem c_X2_init (x : zX) (h0 : Nat) : zFN x mX2_init 1 1 120 [.ref h0] ([(h0, .inr (1, [.null, .int 0, .int 0, .int 0, .int 0, .int 0]))]) (fun u => ∃ n : Nat, u = zPW x (zad [0, h0, n]) (fun _ => 0) (fun _ => 0)) := by
  refine zFN.start RX2 cX2_init 1 rfl rfl rfl (by decide +kernel) (Nat.le_of_ble_eq_true rfl) ?_
  intro p e s m ar below meth c ls A Q hx hb hr hml hown hts hlocks hin hK hE hA hQ hl hw
  have hl : lv_has ls 1 [(0, .ref h0)] := hl
  have hw : zHw x A s.heap ([(h0, .inr (1, [.null, .int 0, .int 0, .int 0, .int 0, .int 0]))]) s.heap [] := hw
  refine lv_aload_n hx hb dX2_init_0 rfl (lv_at hl 0 rfl) ?_
  refine zobj hx hb hml hown hts hl.1 zobX2 ⟨Nat.le_of_ble_eq_true rfl, Nat.le_of_ble_eq_true rfl⟩ (Nat.le_of_ble_eq_true rfl) dX2_init_1 ?_
  refine lv_aload_n hx hb dX2_init_4 rfl (lv_at hl 0 rfl) ?_
  refine lv_bipush (v := 120) hx hb dX2_init_5 (by decide) ?_
  refine znewI (N := 120) hx hb hts hK hA hw (by decide) (by decide) (by decide) (Nat.le_of_ble_eq_true rfl) (Nat.le_of_ble_eq_true rfl) dX2_init_7 (fun q1 H hw => ?_)
  have hw : zHw x A s.heap ([(h0, .inr (1, [.null, .int 0, .int 0, .int 0, .int 0, .int 0])), (q1, .inl (zI x, 120, .inl (fun _ => 0)))]) H [] := hw
  refine va_putF (D := zD x) (ci := 1) (v := .ref q1) (ty := (.array .int)) (C := RX2) (T := TX2) (N := 6) hx hb hts inX2 tyX2 tyX2_ok nmX2 hown hK hw.P hw.D hw.S 0 rfl rfl 0 (Nat.le_of_ble_eq_true rfl) (hts _ fkX2_9) (fun _ h9 => h9) rfl hin rfl (by decide +kernel) rfl rfl (Nat.le_of_ble_eq_true rfl) dX2_init_9 (fun H locs h1 h2 h3 => ?_)
  have hw : zHw x A s.heap ([(h0, .inr (1, [.ref q1, .int 0, .int 0, .int 0, .int 0, .int 0])), (q1, .inl (zI x, 120, .inl (fun _ => 0)))]) H locs := ⟨h1, h2, h3⟩
  refine lv_aload_n hx hb dX2_init_12 rfl (lv_at hl 0 rfl) ?_
  refine lv_iconst (v := 0) hx hb dX2_init_13 (by decide) ?_
  refine pfX2_15 hx hb hown hts hK hw 0 rfl (Nat.le_of_ble_eq_true rfl) dX2_init_14 (fun H locs hw => ?_)
  have hw : zHw x A s.heap ([(h0, .inr (1, [.ref q1, .int 0, .int 0, .int 0, .int 0, .int 0])), (q1, .inl (zI x, 120, .inl (fun _ => 0)))]) H locs := hw
  refine lv_aload_n hx hb dX2_init_17 rfl (lv_at hl 0 rfl) ?_
  refine lv_iconst (v := 0) hx hb dX2_init_18 (by decide) ?_
  refine pfX2_19 hx hb hown hts hK hw 0 rfl (Nat.le_of_ble_eq_true rfl) dX2_init_19 (fun H locs hw => ?_)
  have hw : zHw x A s.heap ([(h0, .inr (1, [.ref q1, .int 0, .int 0, .int 0, .int 0, .int 0])), (q1, .inl (zI x, 120, .inl (fun _ => 0)))]) H locs := hw
  refine lv_aload_n hx hb dX2_init_22 rfl (lv_at hl 0 rfl) ?_
  refine lv_iconst (v := 0) hx hb dX2_init_23 (by decide) ?_
  refine pfX2_22 hx hb hown hts hK hw 0 rfl (Nat.le_of_ble_eq_true rfl) dX2_init_24 (fun H locs hw => ?_)
  have hw : zHw x A s.heap ([(h0, .inr (1, [.ref q1, .int 0, .int 0, .int 0, .int 0, .int 0])), (q1, .inl (zI x, 120, .inl (fun _ => 0)))]) H locs := hw
  refine lv_aload_n hx hb dX2_init_27 rfl (lv_at hl 0 rfl) ?_
  refine lv_iconst (v := 0) hx hb dX2_init_28 (by decide) ?_
  refine pfX2_25 hx hb hown hts hK hw 0 rfl (Nat.le_of_ble_eq_true rfl) dX2_init_29 (fun H locs hw => ?_)
  have hw : zHw x A s.heap ([(h0, .inr (1, [.ref q1, .int 0, .int 0, .int 0, .int 0, .int 0])), (q1, .inl (zI x, 120, .inl (fun _ => 0)))]) H locs := hw
  refine lv_aload_n hx hb dX2_init_32 rfl (lv_at hl 0 rfl) ?_
  refine lv_iconst (v := 0) hx hb dX2_init_33 (by decide) ?_
  refine pfX2_28 hx hb hown hts hK hw 0 rfl (Nat.le_of_ble_eq_true rfl) dX2_init_34 (fun H locs hw => ?_)
  have hw : zHw x A s.heap ([(h0, .inr (1, [.ref q1, .int 0, .int 0, .int 0, .int 0, .int 0])), (q1, .inl (zI x, 120, .inl (fun _ => 0)))]) H locs := hw
  refine W.widen (k := 1) (n := 120) (Nat.le_of_ble_eq_true rfl) (Nat.le_of_ble_eq_true rfl) ?_
  exact zFN.vret hx hb hr hlocks hQ hw dX2_init_37 ⟨q1, rfl⟩
set_option maxHeartbeats 4000000 in
set_option maxRecDepth 100000 in
/-- a town -/
theorem c_X3_init (x : zX) (h0 : Nat) : zFN x mX3_init 1 8 60 [.ref h0] ([(h0, .inr (2, [.int 0, .int 0, .int 0, .int 0, .int 0, .int 0, .int 0, .null, .null, .int 0, .null, .null, .null, .null, .null, .null]))]) (fun u => ∃ t1 t2 t3 t4 t5 t6 t7 t8 : Nat, u = zTW x (zad [h0, t1, t2, t3, t4, t5, t6, t7, t8]) zS0 1000) := by
  refine zFN.start RX3 cX3_init 1 rfl rfl rfl (by decide +kernel) (Nat.le_of_ble_eq_true rfl) ?_
  intro p e s m ar below meth c ls A Q hx hb hr hml hown hts hlocks hin hK hE hA hQ hl hw
  have hl : lv_has ls 1 [(0, .ref h0)] := hl
  have hw : zHw x A s.heap ([(h0, .inr (2, [.int 0, .int 0, .int 0, .int 0, .int 0, .int 0, .int 0, .null, .null, .int 0, .null, .null, .null, .null, .null, .null]))]) s.heap [] := hw
  refine lv_aload_n hx hb dX3_init_0 rfl (lv_at hl 0 rfl) ?_
  refine zobj hx hb hml hown hts hl.1 zobX3 ⟨Nat.le_of_ble_eq_true rfl, Nat.le_of_ble_eq_true rfl⟩ (Nat.le_of_ble_eq_true rfl) dX3_init_1 ?_
  refine lv_aload_n hx hb dX3_init_4 rfl (lv_at hl 0 rfl) ?_
  refine lv_iconst (v := 0) hx hb dX3_init_5 (by decide) ?_
  refine pfX3_9 hx hb hown hts hK hw 0 rfl (Nat.le_of_ble_eq_true rfl) dX3_init_6 (fun H locs hw => ?_)
  have hw : zHw x A s.heap ([(h0, .inr (2, [.int 0, .int 0, .int 0, .int 0, .int 0, .int 0, .int 0, .null, .null, .int 0, .null, .null, .null, .null, .null, .null]))]) H locs := hw
  refine lv_aload_n hx hb dX3_init_9 rfl (lv_at hl 0 rfl) ?_
  refine lv_sipush (v := 500) hx hb dX3_init_10 (by decide) ?_
  refine pfX3_15 hx hb hown hts hK hw 0 rfl (Nat.le_of_ble_eq_true rfl) dX3_init_13 (fun H locs hw => ?_)
  have hw : zHw x A s.heap ([(h0, .inr (2, [.int 0, .int 500, .int 0, .int 0, .int 0, .int 0, .int 0, .null, .null, .int 0, .null, .null, .null, .null, .null, .null]))]) H locs := hw
  refine lv_aload_n hx hb dX3_init_16 rfl (lv_at hl 0 rfl) ?_
  refine lv_sipush (v := 500) hx hb dX3_init_17 (by decide) ?_
  refine pfX3_18 hx hb hown hts hK hw 0 rfl (Nat.le_of_ble_eq_true rfl) dX3_init_20 (fun H locs hw => ?_)
  have hw : zHw x A s.heap ([(h0, .inr (2, [.int 0, .int 500, .int 500, .int 0, .int 0, .int 0, .int 0, .null, .null, .int 0, .null, .null, .null, .null, .null, .null]))]) H locs := hw
  refine lv_aload_n hx hb dX3_init_23 rfl (lv_at hl 0 rfl) ?_
  refine lv_iconst (v := 1) hx hb dX3_init_24 (by decide) ?_
  refine pfX3_21 hx hb hown hts hK hw 0 rfl (Nat.le_of_ble_eq_true rfl) dX3_init_25 (fun H locs hw => ?_)
  have hw : zHw x A s.heap ([(h0, .inr (2, [.int 0, .int 500, .int 500, .int 1, .int 0, .int 0, .int 0, .null, .null, .int 0, .null, .null, .null, .null, .null, .null]))]) H locs := hw
  refine lv_aload_n hx hb dX3_init_28 rfl (lv_at hl 0 rfl) ?_
  refine lv_iconst (v := 0) hx hb dX3_init_29 (by decide) ?_
  refine pfX3_24 hx hb hown hts hK hw 0 rfl (Nat.le_of_ble_eq_true rfl) dX3_init_30 (fun H locs hw => ?_)
  have hw : zHw x A s.heap ([(h0, .inr (2, [.int 0, .int 500, .int 500, .int 1, .int 0, .int 0, .int 0, .null, .null, .int 0, .null, .null, .null, .null, .null, .null]))]) H locs := hw
  refine lv_aload_n hx hb dX3_init_33 rfl (lv_at hl 0 rfl) ?_
  refine lv_iconst (v := 0) hx hb dX3_init_34 (by decide) ?_
  refine pfX3_27 hx hb hown hts hK hw 0 rfl (Nat.le_of_ble_eq_true rfl) dX3_init_35 (fun H locs hw => ?_)
  have hw : zHw x A s.heap ([(h0, .inr (2, [.int 0, .int 500, .int 500, .int 1, .int 0, .int 0, .int 0, .null, .null, .int 0, .null, .null, .null, .null, .null, .null]))]) H locs := hw
  refine lv_aload_n hx hb dX3_init_38 rfl (lv_at hl 0 rfl) ?_
  refine lv_sipush (v := 1000) hx hb dX3_init_39 (by decide) ?_
  refine pfX3_30 hx hb hown hts hK hw 0 rfl (Nat.le_of_ble_eq_true rfl) dX3_init_42 (fun H locs hw => ?_)
  have hw : zHw x A s.heap ([(h0, .inr (2, [.int 0, .int 500, .int 500, .int 1, .int 0, .int 0, .int 1000, .null, .null, .int 0, .null, .null, .null, .null, .null, .null]))]) H locs := hw
  refine lv_aload_n hx hb dX3_init_45 rfl (lv_at hl 0 rfl) ?_
  refine lv_bipush (v := 6) hx hb dX3_init_46 (by decide) ?_
  refine znewI (N := 6) hx hb hts hK hA hw (by decide) (by decide) (by decide) (Nat.le_of_ble_eq_true rfl) (Nat.le_of_ble_eq_true rfl) dX3_init_48 (fun q1 H hw => ?_)
  have hw : zHw x A s.heap ([(h0, .inr (2, [.int 0, .int 500, .int 500, .int 1, .int 0, .int 0, .int 1000, .null, .null, .int 0, .null, .null, .null, .null, .null, .null])), (q1, .inl (zI x, 6, .inl (fun _ => 0)))]) H locs := hw
  refine lv_dup hx hb dX3_init_50 rfl ?_
  refine lv_iconst (v := 0) hx hb dX3_init_51 (by decide) ?_
  refine lv_bipush (v := 20) hx hb dX3_init_52 (by decide) ?_
  refine zias hx hb hK hw 1 0 0 rfl rfl rfl (by decide) (by decide) dX3_init_54 (fun H locs hw => ?_)
  have hw : zHw x A s.heap ([(h0, .inr (2, [.int 0, .int 500, .int 500, .int 1, .int 0, .int 0, .int 1000, .null, .null, .int 0, .null, .null, .null, .null, .null, .null])), (q1, .inl (zI x, 6, .inl (upd (fun _ => 0) 0 20)))]) H locs := hw
  refine lv_dup hx hb dX3_init_55 rfl ?_
  refine lv_iconst (v := 1) hx hb dX3_init_56 (by decide) ?_
  refine lv_bipush (v := 20) hx hb dX3_init_57 (by decide) ?_
  refine zias hx hb hK hw 1 0 1 rfl rfl rfl (by decide) (by decide) dX3_init_59 (fun H locs hw => ?_)
  have hw : zHw x A s.heap ([(h0, .inr (2, [.int 0, .int 500, .int 500, .int 1, .int 0, .int 0, .int 1000, .null, .null, .int 0, .null, .null, .null, .null, .null, .null])), (q1, .inl (zI x, 6, .inl (upd (upd (fun _ => 0) 0 20) 1 20)))]) H locs := hw
  refine lv_dup hx hb dX3_init_60 rfl ?_
  refine lv_iconst (v := 2) hx hb dX3_init_61 (by decide) ?_
  refine lv_bipush (v := 20) hx hb dX3_init_62 (by decide) ?_
  refine zias hx hb hK hw 1 0 2 rfl rfl rfl (by decide) (by decide) dX3_init_64 (fun H locs hw => ?_)
  have hw : zHw x A s.heap ([(h0, .inr (2, [.int 0, .int 500, .int 500, .int 1, .int 0, .int 0, .int 1000, .null, .null, .int 0, .null, .null, .null, .null, .null, .null])), (q1, .inl (zI x, 6, .inl (upd (upd (upd (fun _ => 0) 0 20) 1 20) 2 20)))]) H locs := hw
  refine lv_dup hx hb dX3_init_65 rfl ?_
  refine lv_iconst (v := 3) hx hb dX3_init_66 (by decide) ?_
  refine lv_bipush (v := 20) hx hb dX3_init_67 (by decide) ?_
  refine zias hx hb hK hw 1 0 3 rfl rfl rfl (by decide) (by decide) dX3_init_69 (fun H locs hw => ?_)
  have hw : zHw x A s.heap ([(h0, .inr (2, [.int 0, .int 500, .int 500, .int 1, .int 0, .int 0, .int 1000, .null, .null, .int 0, .null, .null, .null, .null, .null, .null])), (q1, .inl (zI x, 6, .inl (upd (upd (upd (upd (fun _ => 0) 0 20) 1 20) 2 20) 3 20)))]) H locs := hw
  refine lv_dup hx hb dX3_init_70 rfl ?_
  refine lv_iconst (v := 4) hx hb dX3_init_71 (by decide) ?_
  refine lv_bipush (v := 20) hx hb dX3_init_72 (by decide) ?_
  refine zias hx hb hK hw 1 0 4 rfl rfl rfl (by decide) (by decide) dX3_init_74 (fun H locs hw => ?_)
  have hw : zHw x A s.heap ([(h0, .inr (2, [.int 0, .int 500, .int 500, .int 1, .int 0, .int 0, .int 1000, .null, .null, .int 0, .null, .null, .null, .null, .null, .null])), (q1, .inl (zI x, 6, .inl (upd (upd (upd (upd (upd (fun _ => 0) 0 20) 1 20) 2 20) 3 20) 4 20)))]) H locs := hw
  refine lv_dup hx hb dX3_init_75 rfl ?_
  refine lv_iconst (v := 5) hx hb dX3_init_76 (by decide) ?_
  refine lv_bipush (v := 20) hx hb dX3_init_77 (by decide) ?_
  refine zias hx hb hK hw 1 0 5 rfl rfl rfl (by decide) (by decide) dX3_init_79 (fun H locs hw => ?_)
  have hw : zHw x A s.heap ([(h0, .inr (2, [.int 0, .int 500, .int 500, .int 1, .int 0, .int 0, .int 1000, .null, .null, .int 0, .null, .null, .null, .null, .null, .null])), (q1, .inl (zI x, 6, .inl (upd (upd (upd (upd (upd (upd (fun _ => 0) 0 20) 1 20) 2 20) 3 20) 4 20) 5 20)))]) H locs := hw
  refine va_putF (D := zD x) (ci := 2) (v := .ref q1) (ty := (.array .int)) (C := RX3) (T := TX3) (N := 16) hx hb hts inX3 tyX3 tyX3_ok nmX3 hown hK hw.P hw.D hw.S 0 rfl rfl 7 (Nat.le_of_ble_eq_true rfl) (hts _ fkX3_33) (fun _ h9 => h9) rfl hin rfl (by decide +kernel) rfl rfl (Nat.le_of_ble_eq_true rfl) dX3_init_80 (fun H locs h1 h2 h3 => ?_)
  have hw : zHw x A s.heap ([(h0, .inr (2, [.int 0, .int 500, .int 500, .int 1, .int 0, .int 0, .int 1000, .ref q1, .null, .int 0, .null, .null, .null, .null, .null, .null])), (q1, .inl (zI x, 6, .inl (upd (upd (upd (upd (upd (upd (fun _ => 0) 0 20) 1 20) 2 20) 3 20) 4 20) 5 20)))]) H locs := ⟨h1, h2, h3⟩
  refine lv_aload_n hx hb dX3_init_83 rfl (lv_at hl 0 rfl) ?_
  refine lv_bipush (v := 6) hx hb dX3_init_84 (by decide) ?_
  refine znewI (N := 6) hx hb hts hK hA hw (by decide) (by decide) (by decide) (Nat.le_of_ble_eq_true rfl) (Nat.le_of_ble_eq_true rfl) dX3_init_86 (fun q2 H hw => ?_)
  have hw : zHw x A s.heap ([(h0, .inr (2, [.int 0, .int 500, .int 500, .int 1, .int 0, .int 0, .int 1000, .ref q1, .null, .int 0, .null, .null, .null, .null, .null, .null])), (q1, .inl (zI x, 6, .inl (upd (upd (upd (upd (upd (upd (fun _ => 0) 0 20) 1 20) 2 20) 3 20) 4 20) 5 20))), (q2, .inl (zI x, 6, .inl (fun _ => 0)))]) H locs := hw
  refine va_putF (D := zD x) (ci := 2) (v := .ref q2) (ty := (.array .int)) (C := RX3) (T := TX3) (N := 16) hx hb hts inX3 tyX3 tyX3_ok nmX3 hown hK hw.P hw.D hw.S 0 rfl rfl 8 (Nat.le_of_ble_eq_true rfl) (hts _ fkX3_37) (fun _ h9 => h9) rfl hin rfl (by decide +kernel) rfl rfl (Nat.le_of_ble_eq_true rfl) dX3_init_88 (fun H locs h1 h2 h3 => ?_)
  have hw : zHw x A s.heap ([(h0, .inr (2, [.int 0, .int 500, .int 500, .int 1, .int 0, .int 0, .int 1000, .ref q1, .ref q2, .int 0, .null, .null, .null, .null, .null, .null])), (q1, .inl (zI x, 6, .inl (upd (upd (upd (upd (upd (upd (fun _ => 0) 0 20) 1 20) 2 20) 3 20) 4 20) 5 20))), (q2, .inl (zI x, 6, .inl (fun _ => 0)))]) H locs := ⟨h1, h2, h3⟩
  refine lv_aload_n hx hb dX3_init_91 rfl (lv_at hl 0 rfl) ?_
  refine lv_iconst (v := 0) hx hb dX3_init_92 (by decide) ?_
  refine pfX3_40 hx hb hown hts hK hw 0 rfl (Nat.le_of_ble_eq_true rfl) dX3_init_93 (fun H locs hw => ?_)
  have hw : zHw x A s.heap ([(h0, .inr (2, [.int 0, .int 500, .int 500, .int 1, .int 0, .int 0, .int 1000, .ref q1, .ref q2, .int 0, .null, .null, .null, .null, .null, .null])), (q1, .inl (zI x, 6, .inl (upd (upd (upd (upd (upd (upd (fun _ => 0) 0 20) 1 20) 2 20) 3 20) 4 20) 5 20))), (q2, .inl (zI x, 6, .inl (fun _ => 0)))]) H locs := hw
  refine lv_aload_n hx hb dX3_init_96 rfl (lv_at hl 0 rfl) ?_
  refine lv_bipush (v := 8) hx hb dX3_init_97 (by decide) ?_
  refine znewI (N := 8) hx hb hts hK hA hw (by decide) (by decide) (by decide) (Nat.le_of_ble_eq_true rfl) (Nat.le_of_ble_eq_true rfl) dX3_init_99 (fun q3 H hw => ?_)
  have hw : zHw x A s.heap ([(h0, .inr (2, [.int 0, .int 500, .int 500, .int 1, .int 0, .int 0, .int 1000, .ref q1, .ref q2, .int 0, .null, .null, .null, .null, .null, .null])), (q1, .inl (zI x, 6, .inl (upd (upd (upd (upd (upd (upd (fun _ => 0) 0 20) 1 20) 2 20) 3 20) 4 20) 5 20))), (q2, .inl (zI x, 6, .inl (fun _ => 0))), (q3, .inl (zI x, 8, .inl (fun _ => 0)))]) H locs := hw
  refine va_putF (D := zD x) (ci := 2) (v := .ref q3) (ty := (.array .int)) (C := RX3) (T := TX3) (N := 16) hx hb hts inX3 tyX3 tyX3_ok nmX3 hown hK hw.P hw.D hw.S 0 rfl rfl 10 (Nat.le_of_ble_eq_true rfl) (hts _ fkX3_43) (fun _ h9 => h9) rfl hin rfl (by decide +kernel) rfl rfl (Nat.le_of_ble_eq_true rfl) dX3_init_101 (fun H locs h1 h2 h3 => ?_)
  have hw : zHw x A s.heap ([(h0, .inr (2, [.int 0, .int 500, .int 500, .int 1, .int 0, .int 0, .int 1000, .ref q1, .ref q2, .int 0, .ref q3, .null, .null, .null, .null, .null])), (q1, .inl (zI x, 6, .inl (upd (upd (upd (upd (upd (upd (fun _ => 0) 0 20) 1 20) 2 20) 3 20) 4 20) 5 20))), (q2, .inl (zI x, 6, .inl (fun _ => 0))), (q3, .inl (zI x, 8, .inl (fun _ => 0)))]) H locs := ⟨h1, h2, h3⟩
  refine lv_aload_n hx hb dX3_init_104 rfl (lv_at hl 0 rfl) ?_
  refine lv_bipush (v := 8) hx hb dX3_init_105 (by decide) ?_
  refine znewI (N := 8) hx hb hts hK hA hw (by decide) (by decide) (by decide) (Nat.le_of_ble_eq_true rfl) (Nat.le_of_ble_eq_true rfl) dX3_init_107 (fun q4 H hw => ?_)
  have hw : zHw x A s.heap ([(h0, .inr (2, [.int 0, .int 500, .int 500, .int 1, .int 0, .int 0, .int 1000, .ref q1, .ref q2, .int 0, .ref q3, .null, .null, .null, .null, .null])), (q1, .inl (zI x, 6, .inl (upd (upd (upd (upd (upd (upd (fun _ => 0) 0 20) 1 20) 2 20) 3 20) 4 20) 5 20))), (q2, .inl (zI x, 6, .inl (fun _ => 0))), (q3, .inl (zI x, 8, .inl (fun _ => 0))), (q4, .inl (zI x, 8, .inl (fun _ => 0)))]) H locs := hw
  refine va_putF (D := zD x) (ci := 2) (v := .ref q4) (ty := (.array .int)) (C := RX3) (T := TX3) (N := 16) hx hb hts inX3 tyX3 tyX3_ok nmX3 hown hK hw.P hw.D hw.S 0 rfl rfl 11 (Nat.le_of_ble_eq_true rfl) (hts _ fkX3_46) (fun _ h9 => h9) rfl hin rfl (by decide +kernel) rfl rfl (Nat.le_of_ble_eq_true rfl) dX3_init_109 (fun H locs h1 h2 h3 => ?_)
  have hw : zHw x A s.heap ([(h0, .inr (2, [.int 0, .int 500, .int 500, .int 1, .int 0, .int 0, .int 1000, .ref q1, .ref q2, .int 0, .ref q3, .ref q4, .null, .null, .null, .null])), (q1, .inl (zI x, 6, .inl (upd (upd (upd (upd (upd (upd (fun _ => 0) 0 20) 1 20) 2 20) 3 20) 4 20) 5 20))), (q2, .inl (zI x, 6, .inl (fun _ => 0))), (q3, .inl (zI x, 8, .inl (fun _ => 0))), (q4, .inl (zI x, 8, .inl (fun _ => 0)))]) H locs := ⟨h1, h2, h3⟩
  refine lv_aload_n hx hb dX3_init_112 rfl (lv_at hl 0 rfl) ?_
  refine lv_bipush (v := 8) hx hb dX3_init_113 (by decide) ?_
  refine znewI (N := 8) hx hb hts hK hA hw (by decide) (by decide) (by decide) (Nat.le_of_ble_eq_true rfl) (Nat.le_of_ble_eq_true rfl) dX3_init_115 (fun q5 H hw => ?_)
  have hw : zHw x A s.heap ([(h0, .inr (2, [.int 0, .int 500, .int 500, .int 1, .int 0, .int 0, .int 1000, .ref q1, .ref q2, .int 0, .ref q3, .ref q4, .null, .null, .null, .null])), (q1, .inl (zI x, 6, .inl (upd (upd (upd (upd (upd (upd (fun _ => 0) 0 20) 1 20) 2 20) 3 20) 4 20) 5 20))), (q2, .inl (zI x, 6, .inl (fun _ => 0))), (q3, .inl (zI x, 8, .inl (fun _ => 0))), (q4, .inl (zI x, 8, .inl (fun _ => 0))), (q5, .inl (zI x, 8, .inl (fun _ => 0)))]) H locs := hw
  refine va_putF (D := zD x) (ci := 2) (v := .ref q5) (ty := (.array .int)) (C := RX3) (T := TX3) (N := 16) hx hb hts inX3 tyX3 tyX3_ok nmX3 hown hK hw.P hw.D hw.S 0 rfl rfl 12 (Nat.le_of_ble_eq_true rfl) (hts _ fkX3_49) (fun _ h9 => h9) rfl hin rfl (by decide +kernel) rfl rfl (Nat.le_of_ble_eq_true rfl) dX3_init_117 (fun H locs h1 h2 h3 => ?_)
  have hw : zHw x A s.heap ([(h0, .inr (2, [.int 0, .int 500, .int 500, .int 1, .int 0, .int 0, .int 1000, .ref q1, .ref q2, .int 0, .ref q3, .ref q4, .ref q5, .null, .null, .null])), (q1, .inl (zI x, 6, .inl (upd (upd (upd (upd (upd (upd (fun _ => 0) 0 20) 1 20) 2 20) 3 20) 4 20) 5 20))), (q2, .inl (zI x, 6, .inl (fun _ => 0))), (q3, .inl (zI x, 8, .inl (fun _ => 0))), (q4, .inl (zI x, 8, .inl (fun _ => 0))), (q5, .inl (zI x, 8, .inl (fun _ => 0)))]) H locs := ⟨h1, h2, h3⟩
  refine lv_aload_n hx hb dX3_init_120 rfl (lv_at hl 0 rfl) ?_
  refine lv_bipush (v := 8) hx hb dX3_init_121 (by decide) ?_
  refine znewI (N := 8) hx hb hts hK hA hw (by decide) (by decide) (by decide) (Nat.le_of_ble_eq_true rfl) (Nat.le_of_ble_eq_true rfl) dX3_init_123 (fun q6 H hw => ?_)
  have hw : zHw x A s.heap ([(h0, .inr (2, [.int 0, .int 500, .int 500, .int 1, .int 0, .int 0, .int 1000, .ref q1, .ref q2, .int 0, .ref q3, .ref q4, .ref q5, .null, .null, .null])), (q1, .inl (zI x, 6, .inl (upd (upd (upd (upd (upd (upd (fun _ => 0) 0 20) 1 20) 2 20) 3 20) 4 20) 5 20))), (q2, .inl (zI x, 6, .inl (fun _ => 0))), (q3, .inl (zI x, 8, .inl (fun _ => 0))), (q4, .inl (zI x, 8, .inl (fun _ => 0))), (q5, .inl (zI x, 8, .inl (fun _ => 0))), (q6, .inl (zI x, 8, .inl (fun _ => 0)))]) H locs := hw
  refine va_putF (D := zD x) (ci := 2) (v := .ref q6) (ty := (.array .int)) (C := RX3) (T := TX3) (N := 16) hx hb hts inX3 tyX3 tyX3_ok nmX3 hown hK hw.P hw.D hw.S 0 rfl rfl 13 (Nat.le_of_ble_eq_true rfl) (hts _ fkX3_52) (fun _ h9 => h9) rfl hin rfl (by decide +kernel) rfl rfl (Nat.le_of_ble_eq_true rfl) dX3_init_125 (fun H locs h1 h2 h3 => ?_)
  have hw : zHw x A s.heap ([(h0, .inr (2, [.int 0, .int 500, .int 500, .int 1, .int 0, .int 0, .int 1000, .ref q1, .ref q2, .int 0, .ref q3, .ref q4, .ref q5, .ref q6, .null, .null])), (q1, .inl (zI x, 6, .inl (upd (upd (upd (upd (upd (upd (fun _ => 0) 0 20) 1 20) 2 20) 3 20) 4 20) 5 20))), (q2, .inl (zI x, 6, .inl (fun _ => 0))), (q3, .inl (zI x, 8, .inl (fun _ => 0))), (q4, .inl (zI x, 8, .inl (fun _ => 0))), (q5, .inl (zI x, 8, .inl (fun _ => 0))), (q6, .inl (zI x, 8, .inl (fun _ => 0)))]) H locs := ⟨h1, h2, h3⟩
  refine lv_aload_n hx hb dX3_init_128 rfl (lv_at hl 0 rfl) ?_
  refine lv_bipush (v := 8) hx hb dX3_init_129 (by decide) ?_
  refine znewI (N := 8) hx hb hts hK hA hw (by decide) (by decide) (by decide) (Nat.le_of_ble_eq_true rfl) (Nat.le_of_ble_eq_true rfl) dX3_init_131 (fun q7 H hw => ?_)
  have hw : zHw x A s.heap ([(h0, .inr (2, [.int 0, .int 500, .int 500, .int 1, .int 0, .int 0, .int 1000, .ref q1, .ref q2, .int 0, .ref q3, .ref q4, .ref q5, .ref q6, .null, .null])), (q1, .inl (zI x, 6, .inl (upd (upd (upd (upd (upd (upd (fun _ => 0) 0 20) 1 20) 2 20) 3 20) 4 20) 5 20))), (q2, .inl (zI x, 6, .inl (fun _ => 0))), (q3, .inl (zI x, 8, .inl (fun _ => 0))), (q4, .inl (zI x, 8, .inl (fun _ => 0))), (q5, .inl (zI x, 8, .inl (fun _ => 0))), (q6, .inl (zI x, 8, .inl (fun _ => 0))), (q7, .inl (zI x, 8, .inl (fun _ => 0)))]) H locs := hw
  refine va_putF (D := zD x) (ci := 2) (v := .ref q7) (ty := (.array .int)) (C := RX3) (T := TX3) (N := 16) hx hb hts inX3 tyX3 tyX3_ok nmX3 hown hK hw.P hw.D hw.S 0 rfl rfl 14 (Nat.le_of_ble_eq_true rfl) (hts _ fkX3_55) (fun _ h9 => h9) rfl hin rfl (by decide +kernel) rfl rfl (Nat.le_of_ble_eq_true rfl) dX3_init_133 (fun H locs h1 h2 h3 => ?_)
  have hw : zHw x A s.heap ([(h0, .inr (2, [.int 0, .int 500, .int 500, .int 1, .int 0, .int 0, .int 1000, .ref q1, .ref q2, .int 0, .ref q3, .ref q4, .ref q5, .ref q6, .ref q7, .null])), (q1, .inl (zI x, 6, .inl (upd (upd (upd (upd (upd (upd (fun _ => 0) 0 20) 1 20) 2 20) 3 20) 4 20) 5 20))), (q2, .inl (zI x, 6, .inl (fun _ => 0))), (q3, .inl (zI x, 8, .inl (fun _ => 0))), (q4, .inl (zI x, 8, .inl (fun _ => 0))), (q5, .inl (zI x, 8, .inl (fun _ => 0))), (q6, .inl (zI x, 8, .inl (fun _ => 0))), (q7, .inl (zI x, 8, .inl (fun _ => 0)))]) H locs := ⟨h1, h2, h3⟩
  refine lv_aload_n hx hb dX3_init_136 rfl (lv_at hl 0 rfl) ?_
  refine lv_bipush (v := 8) hx hb dX3_init_137 (by decide) ?_
  refine znewI (N := 8) hx hb hts hK hA hw (by decide) (by decide) (by decide) (Nat.le_of_ble_eq_true rfl) (Nat.le_of_ble_eq_true rfl) dX3_init_139 (fun q8 H hw => ?_)
  have hw : zHw x A s.heap ([(h0, .inr (2, [.int 0, .int 500, .int 500, .int 1, .int 0, .int 0, .int 1000, .ref q1, .ref q2, .int 0, .ref q3, .ref q4, .ref q5, .ref q6, .ref q7, .null])), (q1, .inl (zI x, 6, .inl (upd (upd (upd (upd (upd (upd (fun _ => 0) 0 20) 1 20) 2 20) 3 20) 4 20) 5 20))), (q2, .inl (zI x, 6, .inl (fun _ => 0))), (q3, .inl (zI x, 8, .inl (fun _ => 0))), (q4, .inl (zI x, 8, .inl (fun _ => 0))), (q5, .inl (zI x, 8, .inl (fun _ => 0))), (q6, .inl (zI x, 8, .inl (fun _ => 0))), (q7, .inl (zI x, 8, .inl (fun _ => 0))), (q8, .inl (zI x, 8, .inl (fun _ => 0)))]) H locs := hw
  refine va_putF (D := zD x) (ci := 2) (v := .ref q8) (ty := (.array .int)) (C := RX3) (T := TX3) (N := 16) hx hb hts inX3 tyX3 tyX3_ok nmX3 hown hK hw.P hw.D hw.S 0 rfl rfl 15 (Nat.le_of_ble_eq_true rfl) (hts _ fkX3_58) (fun _ h9 => h9) rfl hin rfl (by decide +kernel) rfl rfl (Nat.le_of_ble_eq_true rfl) dX3_init_141 (fun H locs h1 h2 h3 => ?_)
  have hw : zHw x A s.heap ([(h0, .inr (2, [.int 0, .int 500, .int 500, .int 1, .int 0, .int 0, .int 1000, .ref q1, .ref q2, .int 0, .ref q3, .ref q4, .ref q5, .ref q6, .ref q7, .ref q8])), (q1, .inl (zI x, 6, .inl (upd (upd (upd (upd (upd (upd (fun _ => 0) 0 20) 1 20) 2 20) 3 20) 4 20) 5 20))), (q2, .inl (zI x, 6, .inl (fun _ => 0))), (q3, .inl (zI x, 8, .inl (fun _ => 0))), (q4, .inl (zI x, 8, .inl (fun _ => 0))), (q5, .inl (zI x, 8, .inl (fun _ => 0))), (q6, .inl (zI x, 8, .inl (fun _ => 0))), (q7, .inl (zI x, 8, .inl (fun _ => 0))), (q8, .inl (zI x, 8, .inl (fun _ => 0)))]) H locs := ⟨h1, h2, h3⟩
  refine W.widen (k := 8) (n := 60) (Nat.le_of_ble_eq_true rfl) (Nat.le_of_ble_eq_true rfl) ?_
  exact zFN.vret hx hb hr hlocks hQ hw dX3_init_144 ⟨q1, q2, q3, q4, q5, q6, q7, q8, rfl⟩
