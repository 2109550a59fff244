theorem zPW_fs {x : zX} {b : Nat → Nat} {tb : Nat → Int32} (q r : Nat → Int32) : (zPW x b tb q).map Prod.fst = (zPW x b tb r).map Prod.fst := rfl

theorem zTp_n {B : Nat → Int32} {n y : Nat} {v : Int32} (h : ¬ zDg B n y) : zTp B n y v 4 = v := if_neg h

set_option maxHeartbeats 4000000 in
set_option maxRecDepth 100000 in
theorem c_X2_pass_t (x : zX) (b : Nat → Nat) (tb : Nat → Int32) (n y : Nat) (v : Int32) (hn : n ≤ 120) (hy : y ≤ n) (i : Nat) (hi : i < 16) (hs : zIs tb n y (zNm i)) : zFF x mX2_pass 5 [.ref (b 1), .ref (x.2.1.1 i)] (zPW x b tb (zTp tb n y v)) (some (.int 1)) (zPW x b tb (zTp tb n (zNx tb n y) v)) := by
  refine zFG.start RX2 cX2_pass 3 (some .boolean) rfl rfl (by decide +kernel) (Nat.le_of_ble_eq_true rfl) ?_
  intro p e s m ar below meth c ls A Q hx hb hr hml hown hts hlocks hK hE hA hQ hl hw
  have hl : lv_has ls 3 [(0, .ref (b 1)), (1, .ref (x.2.1.1 i))] := hl
  have hw : zHw x A s.heap (zPW x b tb (zTp tb n y v)) s.heap [] := hw
  refine lv_aload_n hx hb dX2_pass_0 rfl (lv_at hl 0 rfl) ?_
  refine lv_aload_n hx hb dX2_pass_1 rfl (lv_at hl 1 rfl) ?_
  refine zcVwi (r := zb (zIs tb n y (zNm i))) hx hb hml hown hts hl.1 hK hE hA lkX2_50 (c_X2_isAt x b tb n y v hn hy i hi) ⟨Nat.le_of_ble_eq_true rfl, Nat.le_of_ble_eq_true rfl⟩ ⟨Nat.zero_le _, Nat.zero_le _⟩ hw 0 1 rfl rfl rfl rfl (Nat.le_of_ble_eq_true rfl) dX2_pass_2 (fun H locs hw => ?_)
  have hw : zHw x A s.heap (zPW x b tb (zTp tb n y v)) H locs := hw
  refine W.eq (g2 := F0 m 5 ls [.int 1]) (by rw [zb_t hs]) ?_
  refine lv_istore_n (lv' := [(2, .int 1), (0, .ref (b 1)), (1, .ref (x.2.1.1 i))]) hx hb dX2_pass_5 rfl hl (by decide) rfl (fun ls hl => ?_)
  refine lv_iload_n hx hb dX2_pass_6 rfl (lv_at hl 0 rfl) ?_
  refine lv_if_eq (tgt := 14) hx hb dX2_pass_7 (by decide) (fun c7 => absurd c7 (by decide)) (fun c7 => ?_)
  refine lv_aload_n hx hb dX2_pass_10 rfl (lv_at hl 1 rfl) ?_
  refine zcVwv hx hb hml hown hts hl.1 hK hE hA lkX2_31 (c_X2_advance x b tb (zTp tb n y v) (zEn tb n y) n rfl rfl hn (zEn_le hy)) ⟨Nat.le_of_ble_eq_true rfl, Nat.le_of_ble_eq_true rfl⟩ ⟨Nat.zero_le _, Nat.zero_le _⟩ hw 0 1 rfl rfl rfl rfl (Nat.le_of_ble_eq_true rfl) dX2_pass_11 (fun H locs hw => ?_)
  have hw : zHw x A s.heap (zPW x b tb (zTp tb n (zNx tb n y) v)) H locs := (by have hL : zLt tb n y := hs.1; rw [zTp_n (zLD hL)] at hw; exact hw)
  refine lv_iload_n hx hb dX2_pass_14 rfl (lv_at hl 0 rfl) ?_
  exact zFG.zret hx hb hr hlocks hQ hw (zPW_fs _ _) dX2_pass_15 (by decide) ⟨rfl, rfl⟩

set_option maxHeartbeats 4000000 in
set_option maxRecDepth 100000 in
theorem c_X2_pass_f (x : zX) (b : Nat → Nat) (tb : Nat → Int32) (n y : Nat) (v : Int32) (hn : n ≤ 120) (hy : y ≤ n) (i : Nat) (hi : i < 16) (hs : ¬ zIs tb n y (zNm i)) : zFF x mX2_pass 5 [.ref (b 1), .ref (x.2.1.1 i)] (zPW x b tb (zTp tb n y v)) (some (.int 0)) (zPW x b tb (zTp tb n y v)) := by
  refine zFG.start RX2 cX2_pass 3 (some .boolean) rfl rfl (by decide +kernel) (Nat.le_of_ble_eq_true rfl) ?_
  intro p e s m ar below meth c ls A Q hx hb hr hml hown hts hlocks hK hE hA hQ hl hw
  have hl : lv_has ls 3 [(0, .ref (b 1)), (1, .ref (x.2.1.1 i))] := hl
  have hw : zHw x A s.heap (zPW x b tb (zTp tb n y v)) s.heap [] := hw
  refine lv_aload_n hx hb dX2_pass_0 rfl (lv_at hl 0 rfl) ?_
  refine lv_aload_n hx hb dX2_pass_1 rfl (lv_at hl 1 rfl) ?_
  refine zcVwi (r := zb (zIs tb n y (zNm i))) hx hb hml hown hts hl.1 hK hE hA lkX2_50 (c_X2_isAt x b tb n y v hn hy i hi) ⟨Nat.le_of_ble_eq_true rfl, Nat.le_of_ble_eq_true rfl⟩ ⟨Nat.zero_le _, Nat.zero_le _⟩ hw 0 1 rfl rfl rfl rfl (Nat.le_of_ble_eq_true rfl) dX2_pass_2 (fun H locs hw => ?_)
  have hw : zHw x A s.heap (zPW x b tb (zTp tb n y v)) H locs := hw
  refine W.eq (g2 := F0 m 5 ls [.int 0]) (by rw [zb_f hs]) ?_
  refine lv_istore_n (lv' := [(2, .int 0), (0, .ref (b 1)), (1, .ref (x.2.1.1 i))]) hx hb dX2_pass_5 rfl hl (by decide) rfl (fun ls hl => ?_)
  refine lv_iload_n hx hb dX2_pass_6 rfl (lv_at hl 0 rfl) ?_
  refine lv_if_eq (tgt := 14) hx hb dX2_pass_7 (by decide) (fun c7 => ?_) (fun c7 => absurd (by decide) c7)
  refine lv_iload_n hx hb dX2_pass_14 rfl (lv_at hl 0 rfl) ?_
  exact zFG.zret hx hb hr hlocks hQ hw (zPW_fs _ _) dX2_pass_15 (by decide) ⟨rfl, rfl⟩
