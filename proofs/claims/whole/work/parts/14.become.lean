set_option maxHeartbeats 4000000 in
set_option maxRecDepth 100000 in
theorem c_X3_become (x : zX) (t u : Nat → Nat) (S T : zT) (lk lj : Int32) : zFF x mX3_become 1 [.ref (t 0), .ref (u 0)] (zTW x t S lk ++ zTW x u T lj) none (zTW x t T 1000 ++ zTW x u T lj) := by
  refine zFG.start RX3 cX3_become 2 none rfl rfl (by decide +kernel) (Nat.le_of_ble_eq_true rfl) ?_
  intro p e s m ar below meth c ls A Q hx hb hr hml hown hts hlocks hK hE hA hQ hl hw
  have hl : lv_has ls 2 [(0, .ref (t 0)), (1, .ref (u 0))] := hl
  have hw : zHw x A s.heap (zTW x t S lk ++ zTW x u T lj) s.heap [] := hw
  refine lv_aload_n hx hb dX3_become_0 rfl (lv_at hl 0 rfl) ?_
  refine lv_aload_n hx hb dX3_become_1 rfl (lv_at hl 1 rfl) ?_
  refine gfX3_9 hx hb hown hts hK hw 9 rfl rfl dX3_become_2 ?_
  refine pfX3_9 hx hb hown hts hK hw 0 rfl (Nat.le_of_ble_eq_true rfl) dX3_become_5 (fun H locs hw => ?_)
  have hw : zHw x A s.heap (zTW x t (zU S 0 1 (T 0 1)) lk ++ zTW x u T lj) H locs := hw
  refine lv_aload_n hx hb dX3_become_8 rfl (lv_at hl 0 rfl) ?_
  refine lv_aload_n hx hb dX3_become_9 rfl (lv_at hl 1 rfl) ?_
  refine gfX3_15 hx hb hown hts hK hw 9 rfl rfl dX3_become_10 ?_
  refine pfX3_15 hx hb hown hts hK hw 0 rfl (Nat.le_of_ble_eq_true rfl) dX3_become_13 (fun H locs hw => ?_)
  have hw : zHw x A s.heap (zTW x t (zU (zU S 0 1 (T 0 1)) 0 2 (T 0 2)) lk ++ zTW x u T lj) H locs := hw
  refine lv_aload_n hx hb dX3_become_16 rfl (lv_at hl 0 rfl) ?_
  refine lv_aload_n hx hb dX3_become_17 rfl (lv_at hl 1 rfl) ?_
  refine gfX3_18 hx hb hown hts hK hw 9 rfl rfl dX3_become_18 ?_
  refine pfX3_18 hx hb hown hts hK hw 0 rfl (Nat.le_of_ble_eq_true rfl) dX3_become_21 (fun H locs hw => ?_)
  have hw : zHw x A s.heap (zTW x t (zU (zU (zU S 0 1 (T 0 1)) 0 2 (T 0 2)) 0 3 (T 0 3)) lk ++ zTW x u T lj) H locs := hw
  refine lv_aload_n hx hb dX3_become_24 rfl (lv_at hl 0 rfl) ?_
  refine lv_aload_n hx hb dX3_become_25 rfl (lv_at hl 1 rfl) ?_
  refine gfX3_21 hx hb hown hts hK hw 9 rfl rfl dX3_become_26 ?_
  refine pfX3_21 hx hb hown hts hK hw 0 rfl (Nat.le_of_ble_eq_true rfl) dX3_become_29 (fun H locs hw => ?_)
  have hw : zHw x A s.heap (zTW x t (zU (zU (zU (zU S 0 1 (T 0 1)) 0 2 (T 0 2)) 0 3 (T 0 3)) 0 4 (T 0 4)) lk ++ zTW x u T lj) H locs := hw
  refine lv_aload_n hx hb dX3_become_32 rfl (lv_at hl 0 rfl) ?_
  refine lv_aload_n hx hb dX3_become_33 rfl (lv_at hl 1 rfl) ?_
  refine gfX3_24 hx hb hown hts hK hw 9 rfl rfl dX3_become_34 ?_
  refine pfX3_24 hx hb hown hts hK hw 0 rfl (Nat.le_of_ble_eq_true rfl) dX3_become_37 (fun H locs hw => ?_)
  have hw : zHw x A s.heap (zTW x t (zU (zU (zU (zU (zU S 0 1 (T 0 1)) 0 2 (T 0 2)) 0 3 (T 0 3)) 0 4 (T 0 4)) 0 5 (T 0 5)) lk ++ zTW x u T lj) H locs := hw
  refine lv_aload_n hx hb dX3_become_40 rfl (lv_at hl 0 rfl) ?_
  refine lv_aload_n hx hb dX3_become_41 rfl (lv_at hl 1 rfl) ?_
  refine gfX3_27 hx hb hown hts hK hw 9 rfl rfl dX3_become_42 ?_
  refine pfX3_27 hx hb hown hts hK hw 0 rfl (Nat.le_of_ble_eq_true rfl) dX3_become_45 (fun H locs hw => ?_)
  have hw : zHw x A s.heap (zTW x t (zU (zU (zU (zU (zU (zU S 0 1 (T 0 1)) 0 2 (T 0 2)) 0 3 (T 0 3)) 0 4 (T 0 4)) 0 5 (T 0 5)) 0 6 (T 0 6)) lk ++ zTW x u T lj) H locs := hw
  refine lv_aload_n hx hb dX3_become_48 rfl (lv_at hl 0 rfl) ?_
  refine lv_sipush (v := 1000) hx hb dX3_become_49 (by decide) ?_
  refine pfX3_30 hx hb hown hts hK hw 0 rfl (Nat.le_of_ble_eq_true rfl) dX3_become_52 (fun H locs hw => ?_)
  have hw : zHw x A s.heap (zTW x t (zU (zU (zU (zU (zU (zU S 0 1 (T 0 1)) 0 2 (T 0 2)) 0 3 (T 0 3)) 0 4 (T 0 4)) 0 5 (T 0 5)) 0 6 (T 0 6)) 1000 ++ zTW x u T lj) H locs := hw
  refine lv_aload_n hx hb dX3_become_55 rfl (lv_at hl 0 rfl) ?_
  refine lv_aload_n hx hb dX3_become_56 rfl (lv_at hl 1 rfl) ?_
  refine gfX3_40 hx hb hown hts hK hw 9 rfl rfl dX3_become_57 ?_
  refine pfX3_40 hx hb hown hts hK hw 0 rfl (Nat.le_of_ble_eq_true rfl) dX3_become_60 (fun H locs hw => ?_)
  have hw : zHw x A s.heap (zTW x t (zU (zU (zU (zU (zU (zU (zU S 0 1 (T 0 1)) 0 2 (T 0 2)) 0 3 (T 0 3)) 0 4 (T 0 4)) 0 5 (T 0 5)) 0 6 (T 0 6)) 0 0 (T 0 0)) 1000 ++ zTW x u T lj) H locs := hw
  refine lv_aload_n hx hb dX3_become_63 rfl (lv_at hl 1 rfl) ?_
  refine gfX3_33 hx hb hown hts hK hw 9 rfl rfl dX3_become_64 ?_
  refine lv_iconst (v := 0) hx hb dX3_become_67 (by decide) ?_
  refine lv_aload_n hx hb dX3_become_68 rfl (lv_at hl 0 rfl) ?_
  refine gfX3_33 hx hb hown hts hK hw 0 rfl rfl dX3_become_69 ?_
  refine lv_iconst (v := 0) hx hb dX3_become_72 (by decide) ?_
  refine lv_bipush (v := 6) hx hb dX3_become_73 (by decide) ?_
  refine zcpyW hx hb (hml.trans hl.1.symm) hown hts acX3 hK hw 10 1 rfl rfl rfl (by decide) ⟨Nat.le_of_ble_eq_true rfl, Nat.le_of_ble_eq_true rfl⟩ dX3_become_75 (fun H locs hw => ?_)
  have hw : zHw x A s.heap (zTW x t (zV (zU (zU (zU (zU (zU (zU (zU S 0 1 (T 0 1)) 0 2 (T 0 2)) 0 3 (T 0 3)) 0 4 (T 0 4)) 0 5 (T 0 5)) 0 6 (T 0 6)) 0 0 (T 0 0)) 1 (T 1)) 1000 ++ zTW x u T lj) H locs := hw
  refine lv_aload_n hx hb dX3_become_78 rfl (lv_at hl 1 rfl) ?_
  refine gfX3_37 hx hb hown hts hK hw 9 rfl rfl dX3_become_79 ?_
  refine lv_iconst (v := 0) hx hb dX3_become_82 (by decide) ?_
  refine lv_aload_n hx hb dX3_become_83 rfl (lv_at hl 0 rfl) ?_
  refine gfX3_37 hx hb hown hts hK hw 0 rfl rfl dX3_become_84 ?_
  refine lv_iconst (v := 0) hx hb dX3_become_87 (by decide) ?_
  refine lv_bipush (v := 6) hx hb dX3_become_88 (by decide) ?_
  refine zcpyW hx hb (hml.trans hl.1.symm) hown hts acX3 hK hw 11 2 rfl rfl rfl (by decide) ⟨Nat.le_of_ble_eq_true rfl, Nat.le_of_ble_eq_true rfl⟩ dX3_become_90 (fun H locs hw => ?_)
  have hw : zHw x A s.heap (zTW x t (zV (zV (zU (zU (zU (zU (zU (zU (zU S 0 1 (T 0 1)) 0 2 (T 0 2)) 0 3 (T 0 3)) 0 4 (T 0 4)) 0 5 (T 0 5)) 0 6 (T 0 6)) 0 0 (T 0 0)) 1 (T 1)) 2 (T 2)) 1000 ++ zTW x u T lj) H locs := hw
  refine lv_aload_n hx hb dX3_become_93 rfl (lv_at hl 1 rfl) ?_
  refine gfX3_43 hx hb hown hts hK hw 9 rfl rfl dX3_become_94 ?_
  refine lv_iconst (v := 0) hx hb dX3_become_97 (by decide) ?_
  refine lv_aload_n hx hb dX3_become_98 rfl (lv_at hl 0 rfl) ?_
  refine gfX3_43 hx hb hown hts hK hw 0 rfl rfl dX3_become_99 ?_
  refine lv_iconst (v := 0) hx hb dX3_become_102 (by decide) ?_
  refine lv_bipush (v := 8) hx hb dX3_become_103 (by decide) ?_
  refine zcpyW hx hb (hml.trans hl.1.symm) hown hts acX3 hK hw 12 3 rfl rfl rfl (by decide) ⟨Nat.le_of_ble_eq_true rfl, Nat.le_of_ble_eq_true rfl⟩ dX3_become_105 (fun H locs hw => ?_)
  have hw : zHw x A s.heap (zTW x t (zV (zV (zV (zU (zU (zU (zU (zU (zU (zU S 0 1 (T 0 1)) 0 2 (T 0 2)) 0 3 (T 0 3)) 0 4 (T 0 4)) 0 5 (T 0 5)) 0 6 (T 0 6)) 0 0 (T 0 0)) 1 (T 1)) 2 (T 2)) 3 (T 3)) 1000 ++ zTW x u T lj) H locs := hw
  refine lv_aload_n hx hb dX3_become_108 rfl (lv_at hl 1 rfl) ?_
  refine gfX3_46 hx hb hown hts hK hw 9 rfl rfl dX3_become_109 ?_
  refine lv_iconst (v := 0) hx hb dX3_become_112 (by decide) ?_
  refine lv_aload_n hx hb dX3_become_113 rfl (lv_at hl 0 rfl) ?_
  refine gfX3_46 hx hb hown hts hK hw 0 rfl rfl dX3_become_114 ?_
  refine lv_iconst (v := 0) hx hb dX3_become_117 (by decide) ?_
  refine lv_bipush (v := 8) hx hb dX3_become_118 (by decide) ?_
  refine zcpyW hx hb (hml.trans hl.1.symm) hown hts acX3 hK hw 13 4 rfl rfl rfl (by decide) ⟨Nat.le_of_ble_eq_true rfl, Nat.le_of_ble_eq_true rfl⟩ dX3_become_120 (fun H locs hw => ?_)
  have hw : zHw x A s.heap (zTW x t (zV (zV (zV (zV (zU (zU (zU (zU (zU (zU (zU S 0 1 (T 0 1)) 0 2 (T 0 2)) 0 3 (T 0 3)) 0 4 (T 0 4)) 0 5 (T 0 5)) 0 6 (T 0 6)) 0 0 (T 0 0)) 1 (T 1)) 2 (T 2)) 3 (T 3)) 4 (T 4)) 1000 ++ zTW x u T lj) H locs := hw
  refine lv_aload_n hx hb dX3_become_123 rfl (lv_at hl 1 rfl) ?_
  refine gfX3_49 hx hb hown hts hK hw 9 rfl rfl dX3_become_124 ?_
  refine lv_iconst (v := 0) hx hb dX3_become_127 (by decide) ?_
  refine lv_aload_n hx hb dX3_become_128 rfl (lv_at hl 0 rfl) ?_
  refine gfX3_49 hx hb hown hts hK hw 0 rfl rfl dX3_become_129 ?_
  refine lv_iconst (v := 0) hx hb dX3_become_132 (by decide) ?_
  refine lv_bipush (v := 8) hx hb dX3_become_133 (by decide) ?_
  refine zcpyW hx hb (hml.trans hl.1.symm) hown hts acX3 hK hw 14 5 rfl rfl rfl (by decide) ⟨Nat.le_of_ble_eq_true rfl, Nat.le_of_ble_eq_true rfl⟩ dX3_become_135 (fun H locs hw => ?_)
  have hw : zHw x A s.heap (zTW x t (zV (zV (zV (zV (zV (zU (zU (zU (zU (zU (zU (zU S 0 1 (T 0 1)) 0 2 (T 0 2)) 0 3 (T 0 3)) 0 4 (T 0 4)) 0 5 (T 0 5)) 0 6 (T 0 6)) 0 0 (T 0 0)) 1 (T 1)) 2 (T 2)) 3 (T 3)) 4 (T 4)) 5 (T 5)) 1000 ++ zTW x u T lj) H locs := hw
  refine lv_aload_n hx hb dX3_become_138 rfl (lv_at hl 1 rfl) ?_
  refine gfX3_52 hx hb hown hts hK hw 9 rfl rfl dX3_become_139 ?_
  refine lv_iconst (v := 0) hx hb dX3_become_142 (by decide) ?_
  refine lv_aload_n hx hb dX3_become_143 rfl (lv_at hl 0 rfl) ?_
  refine gfX3_52 hx hb hown hts hK hw 0 rfl rfl dX3_become_144 ?_
  refine lv_iconst (v := 0) hx hb dX3_become_147 (by decide) ?_
  refine lv_bipush (v := 8) hx hb dX3_become_148 (by decide) ?_
  refine zcpyW hx hb (hml.trans hl.1.symm) hown hts acX3 hK hw 15 6 rfl rfl rfl (by decide) ⟨Nat.le_of_ble_eq_true rfl, Nat.le_of_ble_eq_true rfl⟩ dX3_become_150 (fun H locs hw => ?_)
  have hw : zHw x A s.heap (zTW x t (zV (zV (zV (zV (zV (zV (zU (zU (zU (zU (zU (zU (zU S 0 1 (T 0 1)) 0 2 (T 0 2)) 0 3 (T 0 3)) 0 4 (T 0 4)) 0 5 (T 0 5)) 0 6 (T 0 6)) 0 0 (T 0 0)) 1 (T 1)) 2 (T 2)) 3 (T 3)) 4 (T 4)) 5 (T 5)) 6 (T 6)) 1000 ++ zTW x u T lj) H locs := hw
  refine lv_aload_n hx hb dX3_become_153 rfl (lv_at hl 1 rfl) ?_
  refine gfX3_55 hx hb hown hts hK hw 9 rfl rfl dX3_become_154 ?_
  refine lv_iconst (v := 0) hx hb dX3_become_157 (by decide) ?_
  refine lv_aload_n hx hb dX3_become_158 rfl (lv_at hl 0 rfl) ?_
  refine gfX3_55 hx hb hown hts hK hw 0 rfl rfl dX3_become_159 ?_
  refine lv_iconst (v := 0) hx hb dX3_become_162 (by decide) ?_
  refine lv_bipush (v := 8) hx hb dX3_become_163 (by decide) ?_
  refine zcpyW hx hb (hml.trans hl.1.symm) hown hts acX3 hK hw 16 7 rfl rfl rfl (by decide) ⟨Nat.le_of_ble_eq_true rfl, Nat.le_of_ble_eq_true rfl⟩ dX3_become_165 (fun H locs hw => ?_)
  have hw : zHw x A s.heap (zTW x t (zV (zV (zV (zV (zV (zV (zV (zU (zU (zU (zU (zU (zU (zU S 0 1 (T 0 1)) 0 2 (T 0 2)) 0 3 (T 0 3)) 0 4 (T 0 4)) 0 5 (T 0 5)) 0 6 (T 0 6)) 0 0 (T 0 0)) 1 (T 1)) 2 (T 2)) 3 (T 3)) 4 (T 4)) 5 (T 5)) 6 (T 6)) 7 (T 7)) 1000 ++ zTW x u T lj) H locs := hw
  refine lv_aload_n hx hb dX3_become_168 rfl (lv_at hl 1 rfl) ?_
  refine gfX3_58 hx hb hown hts hK hw 9 rfl rfl dX3_become_169 ?_
  refine lv_iconst (v := 0) hx hb dX3_become_172 (by decide) ?_
  refine lv_aload_n hx hb dX3_become_173 rfl (lv_at hl 0 rfl) ?_
  refine gfX3_58 hx hb hown hts hK hw 0 rfl rfl dX3_become_174 ?_
  refine lv_iconst (v := 0) hx hb dX3_become_177 (by decide) ?_
  refine lv_bipush (v := 8) hx hb dX3_become_178 (by decide) ?_
  refine zcpyW hx hb (hml.trans hl.1.symm) hown hts acX3 hK hw 17 8 rfl rfl rfl (by decide) ⟨Nat.le_of_ble_eq_true rfl, Nat.le_of_ble_eq_true rfl⟩ dX3_become_180 (fun H locs hw => ?_)
  have hw : zHw x A s.heap (zTW x t (zV (zV (zV (zV (zV (zV (zV (zV (zU (zU (zU (zU (zU (zU (zU S 0 1 (T 0 1)) 0 2 (T 0 2)) 0 3 (T 0 3)) 0 4 (T 0 4)) 0 5 (T 0 5)) 0 6 (T 0 6)) 0 0 (T 0 0)) 1 (T 1)) 2 (T 2)) 3 (T 3)) 4 (T 4)) 5 (T 5)) 6 (T 6)) 7 (T 7)) 8 (T 8)) 1000 ++ zTW x u T lj) H locs := hw
  exact zFG.vret hx hb hr hlocks hQ hw rfl dX3_become_183 ⟨rfl, rfl⟩
