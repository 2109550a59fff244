/-! CONSTRUCTORS: the class -/
set_option maxHeartbeats 4000000 in
set_option maxRecDepth 100000 in
/-- the class -/
theorem c_X5_init (x : zX) (h0 : Nat) : zFM x mX5_init 2 39 537 [.ref h0] ([(h0, .inr (3, [.null, .null, .null, .int 0, .null, .null, .null]))]) (fun u => ∃ (b : Nat → Nat) (t : Nat → Nat → Nat), b 0 = h0 ∧ u = zHW x b t zS0 1000 zS0 1000 zS0 1000 0 (fun _ => 0) (fun _ => 0) (fun _ => 0) (fun _ => 0) (fun _ => 0) (fun _ _ => 0)) := by
  refine zFM.start RX5 cX5_init 2 rfl rfl rfl (by decide +kernel) (Nat.le_of_ble_eq_true rfl) ?_
  intro p e s m ar below meth c ls A Q hx hb hr hml hown hts hlocks hin hK hE hE5 hA hQ hl hw
  have hl : lv_has ls 2 [(0, .ref h0)] := hl
  have hw : zHw x A s.heap ([(h0, .inr (3, [.null, .null, .null, .int 0, .null, .null, .null]))]) s.heap [] := hw
  refine lv_aload_n hx hb dX5_init_0 rfl (lv_at hl 0 rfl) ?_
  refine zobj hx hb hml hown hts hl.1 zobX5 ⟨Nat.le_of_ble_eq_true rfl, Nat.le_of_ble_eq_true rfl⟩ (Nat.le_of_ble_eq_true rfl) dX5_init_1 ?_
  refine lv_aload_n hx hb dX5_init_4 rfl (lv_at hl 0 rfl) ?_
  refine znewO (ci := 2) (fs := [.int 0, .int 0, .int 0, .int 0, .int 0, .int 0, .int 0, .null, .null, .int 0, .null, .null, .null, .null, .null, .null]) (C := RX3) (T := TX3) (N := 16) hx hb hts inX3 tyX3 tyX3_ok hown zclX3 zinX3 lkX5_9.1.2.1 hK hA hw rfl dfX3 (Nat.le_of_ble_eq_true rfl) (Nat.le_of_ble_eq_true rfl) dX5_init_5 (fun q1 H hw => ?_)
  refine lv_dup hx hb dX5_init_8 rfl ?_
  refine zcIN hx hb hml hown hts hl.1 hK hE hA lkX5_9 hE5.1 rfl rfl (c_X3_init x q1) ⟨Nat.le_of_ble_eq_true rfl, Nat.le_of_ble_eq_true rfl⟩ ⟨Nat.le_of_ble_eq_true rfl, Nat.le_of_ble_eq_true rfl⟩ hw (Nat.le_of_ble_eq_true rfl) dX5_init_9 (fun uu H locs hp hw => ?_)
  obtain ⟨q2, q3, q4, q5, q6, q7, q8, q9, rfl⟩ := hp
  have hw : zHw x A s.heap ([(h0, .inr (3, [.null, .null, .null, .int 0, .null, .null, .null]))] ++ zTW x (zad [q1, q2, q3, q4, q5, q6, q7, q8, q9]) zS0 1000) H locs := hw.re (by simp only [List.append_assoc, List.cons_append, List.nil_append])
  refine va_putF (D := zD x) (ci := 3) (v := .ref q1) (ty := (.object "HoleFills$Town")) (C := RX5) (T := TX5) (N := 7) hx hb hts inX5 tyX5 tyX5_ok nmX5 hown hK hw.P hw.D hw.S 0 rfl rfl 0 (Nat.le_of_ble_eq_true rfl) (hts _ fkX5_10) (fun _ h9 => h9) rfl hin rfl (by decide +kernel) rfl rfl (Nat.le_of_ble_eq_true rfl) dX5_init_12 (fun H locs h1 h2 h3 => ?_)
  have hw : zHw x A s.heap ([(h0, .inr (3, [.ref q1, .null, .null, .int 0, .null, .null, .null]))] ++ zTW x (zad [q1, q2, q3, q4, q5, q6, q7, q8, q9]) zS0 1000) H locs := ⟨h1, h2, h3⟩
  refine lv_aload_n hx hb dX5_init_15 rfl (lv_at hl 0 rfl) ?_
  refine znewO (ci := 2) (fs := [.int 0, .int 0, .int 0, .int 0, .int 0, .int 0, .int 0, .null, .null, .int 0, .null, .null, .null, .null, .null, .null]) (C := RX3) (T := TX3) (N := 16) hx hb hts inX3 tyX3 tyX3_ok hown zclX3 zinX3 lkX5_9.1.2.1 hK hA hw rfl dfX3 (Nat.le_of_ble_eq_true rfl) (Nat.le_of_ble_eq_true rfl) dX5_init_16 (fun q10 H hw => ?_)
  refine lv_dup hx hb dX5_init_19 rfl ?_
  refine zcIN hx hb hml hown hts hl.1 hK hE hA lkX5_9 hE5.1 rfl rfl (c_X3_init x q10) ⟨Nat.le_of_ble_eq_true rfl, Nat.le_of_ble_eq_true rfl⟩ ⟨Nat.le_of_ble_eq_true rfl, Nat.le_of_ble_eq_true rfl⟩ hw (Nat.le_of_ble_eq_true rfl) dX5_init_20 (fun uu H locs hp hw => ?_)
  obtain ⟨q11, q12, q13, q14, q15, q16, q17, q18, rfl⟩ := hp
  have hw : zHw x A s.heap ([(h0, .inr (3, [.ref q1, .null, .null, .int 0, .null, .null, .null]))] ++ (zTW x (zad [q1, q2, q3, q4, q5, q6, q7, q8, q9]) zS0 1000 ++ zTW x (zad [q10, q11, q12, q13, q14, q15, q16, q17, q18]) zS0 1000)) H locs := hw.re (by simp only [List.append_assoc, List.cons_append, List.nil_append])
  refine va_putF (D := zD x) (ci := 3) (v := .ref q10) (ty := (.object "HoleFills$Town")) (C := RX5) (T := TX5) (N := 7) hx hb hts inX5 tyX5 tyX5_ok nmX5 hown hK hw.P hw.D hw.S 0 rfl rfl 1 (Nat.le_of_ble_eq_true rfl) (hts _ fkX5_16) (fun _ h9 => h9) rfl hin rfl (by decide +kernel) rfl rfl (Nat.le_of_ble_eq_true rfl) dX5_init_23 (fun H locs h1 h2 h3 => ?_)
  have hw : zHw x A s.heap ([(h0, .inr (3, [.ref q1, .ref q10, .null, .int 0, .null, .null, .null]))] ++ (zTW x (zad [q1, q2, q3, q4, q5, q6, q7, q8, q9]) zS0 1000 ++ zTW x (zad [q10, q11, q12, q13, q14, q15, q16, q17, q18]) zS0 1000)) H locs := ⟨h1, h2, h3⟩
  refine lv_aload_n hx hb dX5_init_26 rfl (lv_at hl 0 rfl) ?_
  refine znewO (ci := 2) (fs := [.int 0, .int 0, .int 0, .int 0, .int 0, .int 0, .int 0, .null, .null, .int 0, .null, .null, .null, .null, .null, .null]) (C := RX3) (T := TX3) (N := 16) hx hb hts inX3 tyX3 tyX3_ok hown zclX3 zinX3 lkX5_9.1.2.1 hK hA hw rfl dfX3 (Nat.le_of_ble_eq_true rfl) (Nat.le_of_ble_eq_true rfl) dX5_init_27 (fun q19 H hw => ?_)
  refine lv_dup hx hb dX5_init_30 rfl ?_
  refine zcIN hx hb hml hown hts hl.1 hK hE hA lkX5_9 hE5.1 rfl rfl (c_X3_init x q19) ⟨Nat.le_of_ble_eq_true rfl, Nat.le_of_ble_eq_true rfl⟩ ⟨Nat.le_of_ble_eq_true rfl, Nat.le_of_ble_eq_true rfl⟩ hw (Nat.le_of_ble_eq_true rfl) dX5_init_31 (fun uu H locs hp hw => ?_)
  obtain ⟨q20, q21, q22, q23, q24, q25, q26, q27, rfl⟩ := hp
  have hw : zHw x A s.heap ([(h0, .inr (3, [.ref q1, .ref q10, .null, .int 0, .null, .null, .null]))] ++ (zTW x (zad [q1, q2, q3, q4, q5, q6, q7, q8, q9]) zS0 1000 ++ (zTW x (zad [q10, q11, q12, q13, q14, q15, q16, q17, q18]) zS0 1000 ++ zTW x (zad [q19, q20, q21, q22, q23, q24, q25, q26, q27]) zS0 1000))) H locs := hw.re (by simp only [List.append_assoc, List.cons_append, List.nil_append])
  refine va_putF (D := zD x) (ci := 3) (v := .ref q19) (ty := (.object "HoleFills$Town")) (C := RX5) (T := TX5) (N := 7) hx hb hts inX5 tyX5 tyX5_ok nmX5 hown hK hw.P hw.D hw.S 0 rfl rfl 2 (Nat.le_of_ble_eq_true rfl) (hts _ fkX5_19) (fun _ h9 => h9) rfl hin rfl (by decide +kernel) rfl rfl (Nat.le_of_ble_eq_true rfl) dX5_init_34 (fun H locs h1 h2 h3 => ?_)
  have hw : zHw x A s.heap ([(h0, .inr (3, [.ref q1, .ref q10, .ref q19, .int 0, .null, .null, .null]))] ++ (zTW x (zad [q1, q2, q3, q4, q5, q6, q7, q8, q9]) zS0 1000 ++ (zTW x (zad [q10, q11, q12, q13, q14, q15, q16, q17, q18]) zS0 1000 ++ zTW x (zad [q19, q20, q21, q22, q23, q24, q25, q26, q27]) zS0 1000))) H locs := ⟨h1, h2, h3⟩
  refine lv_aload_n hx hb dX5_init_37 rfl (lv_at hl 0 rfl) ?_
  refine lv_iconst (v := 0) hx hb dX5_init_38 (by decide) ?_
  refine pfX5_22 hx hb hown hts hK hw 0 rfl (Nat.le_of_ble_eq_true rfl) ⟨by decide, by decide⟩ dX5_init_39 (fun H locs hw => ?_)
  have hw : zHw x A s.heap ([(h0, .inr (3, [.ref q1, .ref q10, .ref q19, .int 0, .null, .null, .null]))] ++ (zTW x (zad [q1, q2, q3, q4, q5, q6, q7, q8, q9]) zS0 1000 ++ (zTW x (zad [q10, q11, q12, q13, q14, q15, q16, q17, q18]) zS0 1000 ++ zTW x (zad [q19, q20, q21, q22, q23, q24, q25, q26, q27]) zS0 1000))) H locs := hw
  refine lv_aload_n hx hb dX5_init_42 rfl (lv_at hl 0 rfl) ?_
  refine znewO (ci := 1) (fs := [.null, .int 0, .int 0, .int 0, .int 0, .int 0]) (C := RX2) (T := TX2) (N := 6) hx hb hts inX2 tyX2 tyX2_ok hown zclX2 zinX2 lkX5_28.1.2.1 hK hA hw rfl dfX2 (Nat.le_of_ble_eq_true rfl) (Nat.le_of_ble_eq_true rfl) dX5_init_43 (fun q28 H hw => ?_)
  refine lv_dup hx hb dX5_init_46 rfl ?_
  refine zcIN hx hb hml hown hts hl.1 hK hE hA lkX5_28 hE5.2.1 rfl rfl (c_X2_init x q28) ⟨Nat.le_of_ble_eq_true rfl, Nat.le_of_ble_eq_true rfl⟩ ⟨Nat.le_of_ble_eq_true rfl, Nat.le_of_ble_eq_true rfl⟩ hw (Nat.le_of_ble_eq_true rfl) dX5_init_47 (fun uu H locs hp hw => ?_)
  obtain ⟨q29, rfl⟩ := hp
  have hw : zHw x A s.heap ([(h0, .inr (3, [.ref q1, .ref q10, .ref q19, .int 0, .null, .null, .null]))] ++ (zTW x (zad [q1, q2, q3, q4, q5, q6, q7, q8, q9]) zS0 1000 ++ (zTW x (zad [q10, q11, q12, q13, q14, q15, q16, q17, q18]) zS0 1000 ++ (zTW x (zad [q19, q20, q21, q22, q23, q24, q25, q26, q27]) zS0 1000 ++ zPW x (zad [0, q28, q29]) (fun _ => 0) (fun _ => 0))))) H locs := hw.re (by simp only [List.append_assoc, List.cons_append, List.nil_append])
  refine va_putF (D := zD x) (ci := 3) (v := .ref q28) (ty := (.object "HoleFills$Tape")) (C := RX5) (T := TX5) (N := 7) hx hb hts inX5 tyX5 tyX5_ok nmX5 hown hK hw.P hw.D hw.S 0 rfl rfl 4 (Nat.le_of_ble_eq_true rfl) (hts _ fkX5_29) (fun _ h9 => h9) rfl hin rfl (by decide +kernel) rfl rfl (Nat.le_of_ble_eq_true rfl) dX5_init_50 (fun H locs h1 h2 h3 => ?_)
  have hw : zHw x A s.heap ([(h0, .inr (3, [.ref q1, .ref q10, .ref q19, .int 0, .ref q28, .null, .null]))] ++ (zTW x (zad [q1, q2, q3, q4, q5, q6, q7, q8, q9]) zS0 1000 ++ (zTW x (zad [q10, q11, q12, q13, q14, q15, q16, q17, q18]) zS0 1000 ++ (zTW x (zad [q19, q20, q21, q22, q23, q24, q25, q26, q27]) zS0 1000 ++ zPW x (zad [0, q28, q29]) (fun _ => 0) (fun _ => 0))))) H locs := ⟨h1, h2, h3⟩
  refine lv_aload_n hx hb dX5_init_53 rfl (lv_at hl 0 rfl) ?_
  refine lv_iconst (v := 4) hx hb dX5_init_54 (by decide) ?_
  refine znewQ (N := 4) hx hb hts hown hE5.2.2.2 hK hA hw (by decide) (by decide) (by decide) (Nat.le_of_ble_eq_true rfl) (Nat.le_of_ble_eq_true rfl) dX5_init_55 (fun q30 H hw => ?_)
  have hw : zHw x A s.heap ([(h0, .inr (3, [.ref q1, .ref q10, .ref q19, .int 0, .ref q28, .null, .null]))] ++ (zTW x (zad [q1, q2, q3, q4, q5, q6, q7, q8, q9]) zS0 1000 ++ (zTW x (zad [q10, q11, q12, q13, q14, q15, q16, q17, q18]) zS0 1000 ++ (zTW x (zad [q19, q20, q21, q22, q23, q24, q25, q26, q27]) zS0 1000 ++ (zPW x (zad [0, q28, q29]) (fun _ => 0) (fun _ => 0) ++ [(q30, .inl (zO x, 4, .inr (.inr (.inr (.inr (fun _ => none))))))]))))) H locs := hw.re (by simp only [List.append_assoc, List.cons_append, List.nil_append])
  refine va_putF (D := zD x) (ci := 3) (v := .ref q30) (ty := (.array (.object "HoleFills$Sheet"))) (C := RX5) (T := TX5) (N := 7) hx hb hts inX5 tyX5 tyX5_ok nmX5 hown hK hw.P hw.D hw.S 0 rfl rfl 5 (Nat.le_of_ble_eq_true rfl) (hts _ fkX5_35) (fun _ h9 => h9) rfl hin rfl (by decide +kernel) rfl rfl (Nat.le_of_ble_eq_true rfl) dX5_init_58 (fun H locs h1 h2 h3 => ?_)
  have hw : zHw x A s.heap ([(h0, .inr (3, [.ref q1, .ref q10, .ref q19, .int 0, .ref q28, .ref q30, .null]))] ++ (zTW x (zad [q1, q2, q3, q4, q5, q6, q7, q8, q9]) zS0 1000 ++ (zTW x (zad [q10, q11, q12, q13, q14, q15, q16, q17, q18]) zS0 1000 ++ (zTW x (zad [q19, q20, q21, q22, q23, q24, q25, q26, q27]) zS0 1000 ++ (zPW x (zad [0, q28, q29]) (fun _ => 0) (fun _ => 0) ++ [(q30, .inl (zO x, 4, .inr (.inr (.inr (.inr (fun _ => none))))))]))))) H locs := ⟨h1, h2, h3⟩
  refine lv_aload_n hx hb dX5_init_61 rfl (lv_at hl 0 rfl) ?_
  refine lv_bipush (v := 7) hx hb dX5_init_62 (by decide) ?_
  refine znewI (N := 7) hx hb hts hK hA hw (by decide) (by decide) (by decide) (Nat.le_of_ble_eq_true rfl) (Nat.le_of_ble_eq_true rfl) dX5_init_64 (fun q31 H hw => ?_)
  have hw : zHw x A s.heap ([(h0, .inr (3, [.ref q1, .ref q10, .ref q19, .int 0, .ref q28, .ref q30, .null]))] ++ (zTW x (zad [q1, q2, q3, q4, q5, q6, q7, q8, q9]) zS0 1000 ++ (zTW x (zad [q10, q11, q12, q13, q14, q15, q16, q17, q18]) zS0 1000 ++ (zTW x (zad [q19, q20, q21, q22, q23, q24, q25, q26, q27]) zS0 1000 ++ (zPW x (zad [0, q28, q29]) (fun _ => 0) (fun _ => 0) ++ [(q30, .inl (zO x, 4, .inr (.inr (.inr (.inr (fun _ => none)))))), (q31, .inl (zI x, 7, .inl (fun _ => 0)))]))))) H locs := hw.re (by simp only [List.append_assoc, List.cons_append, List.nil_append])
  refine va_putF (D := zD x) (ci := 3) (v := .ref q31) (ty := (.array .int)) (C := RX5) (T := TX5) (N := 7) hx hb hts inX5 tyX5 tyX5_ok nmX5 hown hK hw.P hw.D hw.S 0 rfl rfl 6 (Nat.le_of_ble_eq_true rfl) (hts _ fkX5_39) (fun _ h9 => h9) rfl hin rfl (by decide +kernel) rfl rfl (Nat.le_of_ble_eq_true rfl) dX5_init_66 (fun H locs h1 h2 h3 => ?_)
  have hw : zHw x A s.heap ([(h0, .inr (3, [.ref q1, .ref q10, .ref q19, .int 0, .ref q28, .ref q30, .ref q31]))] ++ (zTW x (zad [q1, q2, q3, q4, q5, q6, q7, q8, q9]) zS0 1000 ++ (zTW x (zad [q10, q11, q12, q13, q14, q15, q16, q17, q18]) zS0 1000 ++ (zTW x (zad [q19, q20, q21, q22, q23, q24, q25, q26, q27]) zS0 1000 ++ (zPW x (zad [0, q28, q29]) (fun _ => 0) (fun _ => 0) ++ [(q30, .inl (zO x, 4, .inr (.inr (.inr (.inr (fun _ => none)))))), (q31, .inl (zI x, 7, .inl (fun _ => 0)))]))))) H locs := ⟨h1, h2, h3⟩
  refine lv_iconst (v := 0) hx hb dX5_init_69 (by decide) ?_
  refine lv_istore_n (lv' := [(1, .int 0), (0, .ref h0)]) hx hb dX5_init_70 rfl hl (by decide) rfl (fun ls hl => ?_)
  refine lv_iload_n hx hb dX5_init_71 rfl (lv_at hl 0 rfl) ?_
  refine lv_iconst (v := 4) hx hb dX5_init_72 (by decide) ?_
  refine lv_icmp_ge (tgt := 95) hx hb dX5_init_73 (by decide) (fun c73 => absurd c73 (by decide)) (fun c73 => ?_)
  refine lv_aload_n hx hb dX5_init_76 rfl (lv_at hl 1 rfl) ?_
  refine gfX5_35 hx hb hown hts hK hw 0 rfl rfl dX5_init_77 ?_
  refine lv_iload_n hx hb dX5_init_80 rfl (lv_at hl 0 rfl) ?_
  refine znewO (ci := 0) (fs := [.int 0, .int 0, .null]) (C := RX1) (T := TX1) (N := 3) hx hb hts inX1 tyX1 tyX1_ok hown zclX1 zinX1 lkX5_43.1.2.1 hK hA hw rfl dfX1 (Nat.le_of_ble_eq_true rfl) (Nat.le_of_ble_eq_true rfl) dX5_init_81 (fun q32 H hw => ?_)
  refine lv_dup hx hb dX5_init_84 rfl ?_
  refine zcIN hx hb hml hown hts hl.1 hK hE hA lkX5_43 hE5.2.2.1 rfl rfl (c_X1_init x q32) ⟨Nat.le_of_ble_eq_true rfl, Nat.le_of_ble_eq_true rfl⟩ ⟨Nat.le_of_ble_eq_true rfl, Nat.le_of_ble_eq_true rfl⟩ hw (Nat.le_of_ble_eq_true rfl) dX5_init_85 (fun uu H locs hp hw => ?_)
  obtain ⟨q33, rfl⟩ := hp
  have hw : zHw x A s.heap ([(h0, .inr (3, [.ref q1, .ref q10, .ref q19, .int 0, .ref q28, .ref q30, .ref q31]))] ++ (zTW x (zad [q1, q2, q3, q4, q5, q6, q7, q8, q9]) zS0 1000 ++ (zTW x (zad [q10, q11, q12, q13, q14, q15, q16, q17, q18]) zS0 1000 ++ (zTW x (zad [q19, q20, q21, q22, q23, q24, q25, q26, q27]) zS0 1000 ++ (zPW x (zad [0, q28, q29]) (fun _ => 0) (fun _ => 0) ++ ([(q30, .inl (zO x, 4, .inr (.inr (.inr (.inr (fun _ => none)))))), (q31, .inl (zI x, 7, .inl (fun _ => 0)))] ++ zSH x q32 q33 0 0 (fun _ => 0))))))) H locs := hw.re (by simp only [List.append_assoc, List.cons_append, List.nil_append])
  refine zasq hx hb hK hw 30 32 0 rfl rfl rfl (by decide) (by decide) dX5_init_88 (fun H locs hw => ?_)
  have hw : zHw x A s.heap ([(h0, .inr (3, [.ref q1, .ref q10, .ref q19, .int 0, .ref q28, .ref q30, .ref q31]))] ++ (zTW x (zad [q1, q2, q3, q4, q5, q6, q7, q8, q9]) zS0 1000 ++ (zTW x (zad [q10, q11, q12, q13, q14, q15, q16, q17, q18]) zS0 1000 ++ (zTW x (zad [q19, q20, q21, q22, q23, q24, q25, q26, q27]) zS0 1000 ++ (zPW x (zad [0, q28, q29]) (fun _ => 0) (fun _ => 0) ++ ([(q30, .inl (zO x, 4, .inr (.inr (.inr (.inr (va_up (fun _ => none) 0 (some q32))))))), (q31, .inl (zI x, 7, .inl (fun _ => 0)))] ++ zSH x q32 q33 0 0 (fun _ => 0))))))) H locs := hw
  refine lv_iinc (v := 1) (lv' := [(1, .int 1), (0, .ref h0)]) hx hb dX5_init_89 hl (k := 0) rfl (by decide) (by decide) rfl (fun ls hl => ?_)
  refine lv_goto (tgt := 71) hx hb dX5_init_92 (by decide) ?_
  refine lv_iload_n hx hb dX5_init_71 rfl (lv_at hl 0 rfl) ?_
  refine lv_iconst (v := 4) hx hb dX5_init_72 (by decide) ?_
  refine lv_icmp_ge (tgt := 95) hx hb dX5_init_73 (by decide) (fun c73 => absurd c73 (by decide)) (fun c73 => ?_)
  refine lv_aload_n hx hb dX5_init_76 rfl (lv_at hl 1 rfl) ?_
  refine gfX5_35 hx hb hown hts hK hw 0 rfl rfl dX5_init_77 ?_
  refine lv_iload_n hx hb dX5_init_80 rfl (lv_at hl 0 rfl) ?_
  refine znewO (ci := 0) (fs := [.int 0, .int 0, .null]) (C := RX1) (T := TX1) (N := 3) hx hb hts inX1 tyX1 tyX1_ok hown zclX1 zinX1 lkX5_43.1.2.1 hK hA hw rfl dfX1 (Nat.le_of_ble_eq_true rfl) (Nat.le_of_ble_eq_true rfl) dX5_init_81 (fun q34 H hw => ?_)
  refine lv_dup hx hb dX5_init_84 rfl ?_
  refine zcIN hx hb hml hown hts hl.1 hK hE hA lkX5_43 hE5.2.2.1 rfl rfl (c_X1_init x q34) ⟨Nat.le_of_ble_eq_true rfl, Nat.le_of_ble_eq_true rfl⟩ ⟨Nat.le_of_ble_eq_true rfl, Nat.le_of_ble_eq_true rfl⟩ hw (Nat.le_of_ble_eq_true rfl) dX5_init_85 (fun uu H locs hp hw => ?_)
  obtain ⟨q35, rfl⟩ := hp
  have hw : zHw x A s.heap ([(h0, .inr (3, [.ref q1, .ref q10, .ref q19, .int 0, .ref q28, .ref q30, .ref q31]))] ++ (zTW x (zad [q1, q2, q3, q4, q5, q6, q7, q8, q9]) zS0 1000 ++ (zTW x (zad [q10, q11, q12, q13, q14, q15, q16, q17, q18]) zS0 1000 ++ (zTW x (zad [q19, q20, q21, q22, q23, q24, q25, q26, q27]) zS0 1000 ++ (zPW x (zad [0, q28, q29]) (fun _ => 0) (fun _ => 0) ++ ([(q30, .inl (zO x, 4, .inr (.inr (.inr (.inr (va_up (fun _ => none) 0 (some q32))))))), (q31, .inl (zI x, 7, .inl (fun _ => 0)))] ++ (zSH x q32 q33 0 0 (fun _ => 0) ++ zSH x q34 q35 0 0 (fun _ => 0)))))))) H locs := hw.re (by simp only [List.append_assoc, List.cons_append, List.nil_append])
  refine zasq hx hb hK hw 30 34 1 rfl rfl rfl (by decide) (by decide) dX5_init_88 (fun H locs hw => ?_)
  have hw : zHw x A s.heap ([(h0, .inr (3, [.ref q1, .ref q10, .ref q19, .int 0, .ref q28, .ref q30, .ref q31]))] ++ (zTW x (zad [q1, q2, q3, q4, q5, q6, q7, q8, q9]) zS0 1000 ++ (zTW x (zad [q10, q11, q12, q13, q14, q15, q16, q17, q18]) zS0 1000 ++ (zTW x (zad [q19, q20, q21, q22, q23, q24, q25, q26, q27]) zS0 1000 ++ (zPW x (zad [0, q28, q29]) (fun _ => 0) (fun _ => 0) ++ ([(q30, .inl (zO x, 4, .inr (.inr (.inr (.inr (va_up (va_up (fun _ => none) 0 (some q32)) 1 (some q34))))))), (q31, .inl (zI x, 7, .inl (fun _ => 0)))] ++ (zSH x q32 q33 0 0 (fun _ => 0) ++ zSH x q34 q35 0 0 (fun _ => 0)))))))) H locs := hw
  refine lv_iinc (v := 2) (lv' := [(1, .int 2), (0, .ref h0)]) hx hb dX5_init_89 hl (k := 0) rfl (by decide) (by decide) rfl (fun ls hl => ?_)
  refine lv_goto (tgt := 71) hx hb dX5_init_92 (by decide) ?_
  refine lv_iload_n hx hb dX5_init_71 rfl (lv_at hl 0 rfl) ?_
  refine lv_iconst (v := 4) hx hb dX5_init_72 (by decide) ?_
  refine lv_icmp_ge (tgt := 95) hx hb dX5_init_73 (by decide) (fun c73 => absurd c73 (by decide)) (fun c73 => ?_)
  refine lv_aload_n hx hb dX5_init_76 rfl (lv_at hl 1 rfl) ?_
  refine gfX5_35 hx hb hown hts hK hw 0 rfl rfl dX5_init_77 ?_
  refine lv_iload_n hx hb dX5_init_80 rfl (lv_at hl 0 rfl) ?_
  refine znewO (ci := 0) (fs := [.int 0, .int 0, .null]) (C := RX1) (T := TX1) (N := 3) hx hb hts inX1 tyX1 tyX1_ok hown zclX1 zinX1 lkX5_43.1.2.1 hK hA hw rfl dfX1 (Nat.le_of_ble_eq_true rfl) (Nat.le_of_ble_eq_true rfl) dX5_init_81 (fun q36 H hw => ?_)
  refine lv_dup hx hb dX5_init_84 rfl ?_
  refine zcIN hx hb hml hown hts hl.1 hK hE hA lkX5_43 hE5.2.2.1 rfl rfl (c_X1_init x q36) ⟨Nat.le_of_ble_eq_true rfl, Nat.le_of_ble_eq_true rfl⟩ ⟨Nat.le_of_ble_eq_true rfl, Nat.le_of_ble_eq_true rfl⟩ hw (Nat.le_of_ble_eq_true rfl) dX5_init_85 (fun uu H locs hp hw => ?_)
  obtain ⟨q37, rfl⟩ := hp
  have hw : zHw x A s.heap ([(h0, .inr (3, [.ref q1, .ref q10, .ref q19, .int 0, .ref q28, .ref q30, .ref q31]))] ++ (zTW x (zad [q1, q2, q3, q4, q5, q6, q7, q8, q9]) zS0 1000 ++ (zTW x (zad [q10, q11, q12, q13, q14, q15, q16, q17, q18]) zS0 1000 ++ (zTW x (zad [q19, q20, q21, q22, q23, q24, q25, q26, q27]) zS0 1000 ++ (zPW x (zad [0, q28, q29]) (fun _ => 0) (fun _ => 0) ++ ([(q30, .inl (zO x, 4, .inr (.inr (.inr (.inr (va_up (va_up (fun _ => none) 0 (some q32)) 1 (some q34))))))), (q31, .inl (zI x, 7, .inl (fun _ => 0)))] ++ (zSH x q32 q33 0 0 (fun _ => 0) ++ (zSH x q34 q35 0 0 (fun _ => 0) ++ zSH x q36 q37 0 0 (fun _ => 0))))))))) H locs := hw.re (by simp only [List.append_assoc, List.cons_append, List.nil_append])
  refine zasq hx hb hK hw 30 36 2 rfl rfl rfl (by decide) (by decide) dX5_init_88 (fun H locs hw => ?_)
  have hw : zHw x A s.heap ([(h0, .inr (3, [.ref q1, .ref q10, .ref q19, .int 0, .ref q28, .ref q30, .ref q31]))] ++ (zTW x (zad [q1, q2, q3, q4, q5, q6, q7, q8, q9]) zS0 1000 ++ (zTW x (zad [q10, q11, q12, q13, q14, q15, q16, q17, q18]) zS0 1000 ++ (zTW x (zad [q19, q20, q21, q22, q23, q24, q25, q26, q27]) zS0 1000 ++ (zPW x (zad [0, q28, q29]) (fun _ => 0) (fun _ => 0) ++ ([(q30, .inl (zO x, 4, .inr (.inr (.inr (.inr (va_up (va_up (va_up (fun _ => none) 0 (some q32)) 1 (some q34)) 2 (some q36))))))), (q31, .inl (zI x, 7, .inl (fun _ => 0)))] ++ (zSH x q32 q33 0 0 (fun _ => 0) ++ (zSH x q34 q35 0 0 (fun _ => 0) ++ zSH x q36 q37 0 0 (fun _ => 0))))))))) H locs := hw
  refine lv_iinc (v := 3) (lv' := [(1, .int 3), (0, .ref h0)]) hx hb dX5_init_89 hl (k := 0) rfl (by decide) (by decide) rfl (fun ls hl => ?_)
  refine lv_goto (tgt := 71) hx hb dX5_init_92 (by decide) ?_
  refine lv_iload_n hx hb dX5_init_71 rfl (lv_at hl 0 rfl) ?_
  refine lv_iconst (v := 4) hx hb dX5_init_72 (by decide) ?_
  refine lv_icmp_ge (tgt := 95) hx hb dX5_init_73 (by decide) (fun c73 => absurd c73 (by decide)) (fun c73 => ?_)
  refine lv_aload_n hx hb dX5_init_76 rfl (lv_at hl 1 rfl) ?_
  refine gfX5_35 hx hb hown hts hK hw 0 rfl rfl dX5_init_77 ?_
  refine lv_iload_n hx hb dX5_init_80 rfl (lv_at hl 0 rfl) ?_
  refine znewO (ci := 0) (fs := [.int 0, .int 0, .null]) (C := RX1) (T := TX1) (N := 3) hx hb hts inX1 tyX1 tyX1_ok hown zclX1 zinX1 lkX5_43.1.2.1 hK hA hw rfl dfX1 (Nat.le_of_ble_eq_true rfl) (Nat.le_of_ble_eq_true rfl) dX5_init_81 (fun q38 H hw => ?_)
  refine lv_dup hx hb dX5_init_84 rfl ?_
  refine zcIN hx hb hml hown hts hl.1 hK hE hA lkX5_43 hE5.2.2.1 rfl rfl (c_X1_init x q38) ⟨Nat.le_of_ble_eq_true rfl, Nat.le_of_ble_eq_true rfl⟩ ⟨Nat.le_of_ble_eq_true rfl, Nat.le_of_ble_eq_true rfl⟩ hw (Nat.le_of_ble_eq_true rfl) dX5_init_85 (fun uu H locs hp hw => ?_)
  obtain ⟨q39, rfl⟩ := hp
  have hw : zHw x A s.heap ([(h0, .inr (3, [.ref q1, .ref q10, .ref q19, .int 0, .ref q28, .ref q30, .ref q31]))] ++ (zTW x (zad [q1, q2, q3, q4, q5, q6, q7, q8, q9]) zS0 1000 ++ (zTW x (zad [q10, q11, q12, q13, q14, q15, q16, q17, q18]) zS0 1000 ++ (zTW x (zad [q19, q20, q21, q22, q23, q24, q25, q26, q27]) zS0 1000 ++ (zPW x (zad [0, q28, q29]) (fun _ => 0) (fun _ => 0) ++ ([(q30, .inl (zO x, 4, .inr (.inr (.inr (.inr (va_up (va_up (va_up (fun _ => none) 0 (some q32)) 1 (some q34)) 2 (some q36))))))), (q31, .inl (zI x, 7, .inl (fun _ => 0)))] ++ (zSH x q32 q33 0 0 (fun _ => 0) ++ (zSH x q34 q35 0 0 (fun _ => 0) ++ (zSH x q36 q37 0 0 (fun _ => 0) ++ zSH x q38 q39 0 0 (fun _ => 0)))))))))) H locs := hw.re (by simp only [List.append_assoc, List.cons_append, List.nil_append])
  refine zasq hx hb hK hw 30 38 3 rfl rfl rfl (by decide) (by decide) dX5_init_88 (fun H locs hw => ?_)
  have hw : zHw x A s.heap ([(h0, .inr (3, [.ref q1, .ref q10, .ref q19, .int 0, .ref q28, .ref q30, .ref q31]))] ++ (zTW x (zad [q1, q2, q3, q4, q5, q6, q7, q8, q9]) zS0 1000 ++ (zTW x (zad [q10, q11, q12, q13, q14, q15, q16, q17, q18]) zS0 1000 ++ (zTW x (zad [q19, q20, q21, q22, q23, q24, q25, q26, q27]) zS0 1000 ++ (zPW x (zad [0, q28, q29]) (fun _ => 0) (fun _ => 0) ++ ([(q30, .inl (zO x, 4, .inr (.inr (.inr (.inr (va_up (va_up (va_up (va_up (fun _ => none) 0 (some q32)) 1 (some q34)) 2 (some q36)) 3 (some q38))))))), (q31, .inl (zI x, 7, .inl (fun _ => 0)))] ++ (zSH x q32 q33 0 0 (fun _ => 0) ++ (zSH x q34 q35 0 0 (fun _ => 0) ++ (zSH x q36 q37 0 0 (fun _ => 0) ++ zSH x q38 q39 0 0 (fun _ => 0)))))))))) H locs := hw
  refine lv_iinc (v := 4) (lv' := [(1, .int 4), (0, .ref h0)]) hx hb dX5_init_89 hl (k := 0) rfl (by decide) (by decide) rfl (fun ls hl => ?_)
  refine lv_goto (tgt := 71) hx hb dX5_init_92 (by decide) ?_
  refine lv_iload_n hx hb dX5_init_71 rfl (lv_at hl 0 rfl) ?_
  refine lv_iconst (v := 4) hx hb dX5_init_72 (by decide) ?_
  refine lv_icmp_ge (tgt := 95) hx hb dX5_init_73 (by decide) (fun c73 => ?_) (fun c73 => absurd (by decide) c73)
  have hw := zHw.refn hw 30 (fun i => some ((zad [h0, q28, q29, q30, q31, q32, q34, q36, q38, q33, q35, q37, q39]) (5 + i))) rfl (fun j hj => by rcases (show j = 0 ∨ j = 1 ∨ j = 2 ∨ j = 3 by omega) with rfl | rfl | rfl | rfl <;> rfl)
  have hw : zHw x A s.heap ([(h0, .inr (3, [.ref q1, .ref q10, .ref q19, .int 0, .ref q28, .ref q30, .ref q31]))] ++ (zTW x (zad [q1, q2, q3, q4, q5, q6, q7, q8, q9]) zS0 1000 ++ (zTW x (zad [q10, q11, q12, q13, q14, q15, q16, q17, q18]) zS0 1000 ++ (zTW x (zad [q19, q20, q21, q22, q23, q24, q25, q26, q27]) zS0 1000 ++ (zPW x (zad [0, q28, q29]) (fun _ => 0) (fun _ => 0) ++ ([(q30, .inl (zO x, 4, .inr (.inr (.inr (.inr (fun i => some ((zad [h0, q28, q29, q30, q31, q32, q34, q36, q38, q33, q35, q37, q39]) (5 + i)))))))), (q31, .inl (zI x, 7, .inl (fun _ => 0)))] ++ (zSH x q32 q33 0 0 (fun _ => 0) ++ (zSH x q34 q35 0 0 (fun _ => 0) ++ (zSH x q36 q37 0 0 (fun _ => 0) ++ zSH x q38 q39 0 0 (fun _ => 0)))))))))) H locs := hw
  have hw := zHw.pick (ws' := zHW x (zad [h0, q28, q29, q30, q31, q32, q34, q36, q38, q33, q35, q37, q39]) (fun i => zad (List.getD [[q1, q2, q3, q4, q5, q6, q7, q8, q9], [q10, q11, q12, q13, q14, q15, q16, q17, q18], [q19, q20, q21, q22, q23, q24, q25, q26, q27]] i [])) zS0 1000 zS0 1000 zS0 1000 0 (fun _ => 0) (fun _ => 0) (fun _ => 0) (fun _ => 0) (fun _ => 0) (fun _ _ => 0)) hw [0, 31, 30, 1, 2, 3, 4, 5, 6, 7, 8, 9, 10, 11, 12, 13, 14, 15, 16, 17, 18, 19, 20, 21, 22, 23, 24, 25, 26, 27, 28, 29, 32, 33, 34, 35, 36, 37, 38, 39] (by decide) rfl
  refine W.widen (k := 39) (n := 537) (Nat.le_of_ble_eq_true rfl) (Nat.le_of_ble_eq_true rfl) ?_
  exact zFN.vret hx hb hr hlocks hQ hw dX5_init_95 ⟨(zad [h0, q28, q29, q30, q31, q32, q34, q36, q38, q33, q35, q37, q39]), (fun i => zad (List.getD [[q1, q2, q3, q4, q5, q6, q7, q8, q9], [q10, q11, q12, q13, q14, q15, q16, q17, q18], [q19, q20, q21, q22, q23, q24, q25, q26, q27]] i [])), rfl, rfl⟩
