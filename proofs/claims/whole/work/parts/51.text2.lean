theorem zIt_end {B : Nat → Int32} {n y : Nat} {S : zT} (h : ¬ y < n) : zIt B n y S = .inl y := by
  have m : ∀ l, ¬ zIs B n y l := fun l q => h q.1.1
  have hki : zKi B n y 6 0 = 6 := (zKi_s (m _)).trans ((zKi_s (m _)).trans ((zKi_s (m _)).trans ((zKi_s (m _)).trans ((zKi_s (m _)).trans ((zKi_s (m _)).trans rfl)))))
  exact (if_neg (by rw [hki]; decide)).trans ((if_neg (m _)).trans ((if_neg (m _)).trans (if_neg (m _))))
theorem zneg : ∀ y, y < 121 → (-1 - nI y : Int32) ≤ 0 := by decide +kernel
theorem zTx_ok {B : Nat → Int32} {n : Nat} (hn : n ≤ 120) : ∀ f k y (S : zT), y ≤ n → zInv S → 1 ≤ k → k + f ≤ 1000 → ((zTx B n f k y S).2 = none ∧ (zTx B n f k y S).1 ≤ 0) ∨ (∃ S', (zTx B n f k y S).2 = some S' ∧ 0 < (zTx B n f k y S).1 ∧ zInv S')
  | 0, k, y, S, hy, _, _, _ => Or.inl ⟨rfl, zneg y (by omega)⟩
  | f + 1, k, y, S, hy, hI, h1, h2 => by
    cases h : zIt B n y S with
    | inl z =>
      rw [zTx_i h]
      have := zIt_i hy h
      exact Or.inl ⟨rfl, zneg z (by omega)⟩
    | inr q =>
      obtain ⟨z, T⟩ := q
      obtain ⟨a1, a2, a3⟩ := zIt_o hI hy h
      rw [zTx_o h]
      unfold zTe
      by_cases c : z < n ∧ B z = 59
      · rw [if_pos c]
        exact zTx_ok hn f (k + 1) (zNx B n z) T (zNx_le a1) a3 (by omega) (by omega)
      · rw [if_neg c]
        by_cases d : z < n
        · rw [if_pos d]; exact Or.inl ⟨rfl, zneg z (by omega)⟩
        · rw [if_neg d]
          exact Or.inr ⟨T, rfl, nI_lt (a := 0) (by omega) (by omega), a3⟩

set_option maxHeartbeats 4000000 in
set_option maxRecDepth 100000 in
theorem c_X4_readAll (x : zX) (b t : Nat → Nat) (tb tq : Nat → Int32) (n : Nat) (lk : Int32) (U : zT) (htl : tq 0 = nI n) (hn : n ≤ 120) (hI : zInv U) : zFG x mX4_readAll 8 [.ref (b 1), .ref (t 0)] (zPW x b tb tq ++ zTW x t U lk) (fun v' u' => v' = some (.int (zTx tb n 121 1 (zRu tb n 32 32 0) U).1) ∧ ∃ (tq2 : Nat → Int32) (T2 : zT), (∀ S', (zTx tb n 121 1 (zRu tb n 32 32 0) U).2 = some S' → T2 = S') ∧ u' = zPW x b tb tq2 ++ zTW x t T2 lk) := by
  refine zFG.start RX4 cX4_readAll 3 (some .int) rfl rfl (by decide +kernel) (Nat.le_of_ble_eq_true rfl) ?_
  intro p e s m ar below meth c ls A Q hx hb hr hml hown hts hlocks hK hE hA hQ hl hw
  have hl : lv_has ls 3 [(0, .ref (b 1)), (1, .ref (t 0))] := hl
  have hw : zHw x A s.heap (zPW x b tb tq ++ zTW x t U lk) s.heap [] := hw
  refine lv_aload_n hx hb dX4_readAll_0 rfl (lv_at hl 0 rfl) ?_
  refine zcVmv (C1 := []) (C2 := (zTW x t U lk)) hx hb hml hown hts hl.1 hK hE hA lkX4_9 (c_X2_begin x b tb tq n htl hn) ⟨Nat.le_of_ble_eq_true rfl, Nat.le_of_ble_eq_true rfl⟩ ⟨Nat.zero_le _, Nat.zero_le _⟩ hw 0 1 rfl rfl rfl rfl (Nat.le_of_ble_eq_true rfl) dX4_readAll_1 (fun H locs hw => ?_)
  have hw : zHw x A s.heap (zPW x b tb (zTp tb n (zRu tb n 32 32 0) (tq 4)) ++ zTW x t U lk) H locs := hw
  refine lv_iconst (v := 1) hx hb dX4_readAll_4 (by decide) ?_
  refine lv_istore_n (lv' := [(2, .int 1), (0, .ref (b 1)), (1, .ref (t 0))]) hx hb dX4_readAll_5 rfl hl (by decide) rfl (fun ls hl => ?_)
  have loop6 : ∀ (dd : Nat) (fu : Nat) (k : Nat) (y : Nat) (S : zT) (v : Int32), fu < dd → (hy : y ≤ n) → (hS : zInv S) → (hf : n - y < fu) → (hky : k ≤ y + 1) → (e1 : zTx tb n fu k y S = zTx tb n 121 1 (zRu tb n 32 32 0) U) → ∀ (H : Heap) (locs : List Loc) (ls : Array Slot), zHw x A s.heap (zPW x b tb (zTp tb n y v) ++ zTW x t S lk) H locs → lv_has ls 3 [(0, .ref (b 1)), (1, .ref (t 0)), (2, .int (nI k))] → W p x.1 e (zRM 8) s m ar below meth c H locs 0 0 Q (F0 m 6 ls []) := by
    intro dd
    induction dd with
    | zero => intro fu k y S v hm; exact absurd hm (Nat.not_lt_zero _)
    | succ dd ih6 =>
      intro fu k y S v hm hy hS hf hky e1 H locs ls hw hl
      refine lv_iload_n hx hb dX4_readAll_6 rfl (lv_at hl 2 rfl) ?_
      refine lv_bipush (v := 120) hx hb dX4_readAll_7 (by decide) ?_
      refine lv_icmp_gt (tgt := 53) hx hb dX4_readAll_9 (by decide) (fun c9 => ?_) (fun c9 => ?_)
      · refine lv_iconst (v := (-1)) hx hb dX4_readAll_53 (by decide) ?_
        refine lv_aload_n hx hb dX4_readAll_54 rfl (lv_at hl 0 rfl) ?_
        refine gfX4_27 hx hb hown hts hK hw 0 rfl rfl dX4_readAll_55 ?_
        refine W.eq (g2 := F0 m 58 ls [.int (nI y), .int (-1)]) (by rfl) ?_
        refine lv_isub hx hb dX4_readAll_58 ?_
        exact zFG.iret hx hb hr hlocks hQ hw (zPT_fs _ _ _ _ _ _) dX4_readAll_59 (by
            have hT : zTx tb n 121 1 (zRu tb n 32 32 0) U = (-1 - nI y, none) := e1.symm.trans (by obtain ⟨fu, rfl⟩ : ∃ f2, fu = f2 + 1 := ⟨fu - 1, by omega⟩; exact zTx_i (zIt_end (by have : 120 < k := (nI_ltI (a := 120) (by decide) (by omega)).mp c9; omega)))
            exact ⟨zsi (by rw [hT]), zTp tb n y v, S, (fun S' h => by rw [hT] at h; cases h), rfl⟩)
      · obtain ⟨fu, rfl⟩ : ∃ f2, fu = f2 + 1 := ⟨fu - 1, by omega⟩
        refine lv_aload_n hx hb dX4_readAll_12 rfl (lv_at hl 0 rfl) ?_
        rcases hz : zIt tb n y S with z1 | ⟨y1, S1⟩
        · refine lv_aload_n hx hb dX4_readAll_13 rfl (lv_at hl 1 rfl) ?_
          refine zcSw hx hb hml hown hts hl.1 hK hE hA lkX4_14 (c_X4_readItem x b t tb n y v lk S hn hy hS) ⟨Nat.le_of_ble_eq_true rfl, Nat.le_of_ble_eq_true rfl⟩ ⟨Nat.zero_le _, Nat.zero_le _⟩ hw rfl rfl (Nat.le_of_ble_eq_true rfl) dX4_readAll_14 (fun vv uu H locs hp hw => ?_)
          obtain ⟨v3, T3, hp2⟩ := hp
          rw [hz] at hp2
          obtain ⟨rfl, rfl⟩ := hp2
          refine W.eq (g2 := F0 m 17 ls [.int 0]) rfl ?_
          have hw : zHw x A s.heap (zPW x b tb (zTp tb n z1 v3) ++ zTW x t T3 lk) H locs := hw
          refine lv_if_ne (tgt := 23) hx hb dX4_readAll_17 (by decide) (fun c17 => absurd c17 (by decide)) (fun c17 => ?_)
          refine lv_goto (tgt := 53) hx hb dX4_readAll_20 (by decide) ?_
          refine lv_iconst (v := (-1)) hx hb dX4_readAll_53 (by decide) ?_
          refine lv_aload_n hx hb dX4_readAll_54 rfl (lv_at hl 0 rfl) ?_
          refine gfX4_27 hx hb hown hts hK hw 0 rfl rfl dX4_readAll_55 ?_
          refine W.eq (g2 := F0 m 58 ls [.int (nI z1), .int (-1)]) (by rfl) ?_
          refine lv_isub hx hb dX4_readAll_58 ?_
          exact zFG.iret hx hb hr hlocks hQ hw (zPT_fs _ _ _ _ _ _) dX4_readAll_59 (by
              have hT : zTx tb n 121 1 (zRu tb n 32 32 0) U = (-1 - nI z1, none) := e1.symm.trans (zTx_i hz)
              exact ⟨zsi (by rw [hT]), zTp tb n z1 v3, T3, (fun S' h => by rw [hT] at h; cases h), rfl⟩)
        · obtain ⟨hy1, hyy, hI1⟩ := zIt_o hS hy hz
          refine lv_aload_n hx hb dX4_readAll_13 rfl (lv_at hl 1 rfl) ?_
          refine zcSw hx hb hml hown hts hl.1 hK hE hA lkX4_14 (c_X4_readItem x b t tb n y v lk S hn hy hS) ⟨Nat.le_of_ble_eq_true rfl, Nat.le_of_ble_eq_true rfl⟩ ⟨Nat.zero_le _, Nat.zero_le _⟩ hw rfl rfl (Nat.le_of_ble_eq_true rfl) dX4_readAll_14 (fun vv uu H locs hp hw => ?_)
          obtain ⟨v3, T3, hp2⟩ := hp
          rw [hz] at hp2
          obtain ⟨rfl, rfl⟩ := hp2
          refine W.eq (g2 := F0 m 17 ls [.int 1]) rfl ?_
          have hw : zHw x A s.heap (zPW x b tb (zTp tb n y1 v3) ++ zTW x t S1 lk) H locs := hw
          refine lv_if_ne (tgt := 23) hx hb dX4_readAll_17 (by decide) (fun c17 => ?_) (fun c17 => absurd c17 (by decide))
          refine lv_aload_n hx hb dX4_readAll_23 rfl (lv_at hl 0 rfl) ?_
          refine gfX4_20 hx hb hown hts hK hw 0 rfl rfl dX4_readAll_24 ?_
          refine W.eq (g2 := F0 m 27 ls [.int (zTk tb n y1)]) (by rfl) ?_
          refine lv_if_ne (tgt := 32) hx hb dX4_readAll_27 (by decide) (fun c27 => ?_) (fun c27 => ?_)
          · have hyn : y1 < n := Decidable.of_not_not (fun h => c27 (zTk_0 h))
            refine lv_aload_n hx hb dX4_readAll_32 rfl (lv_at hl 0 rfl) ?_
            refine gfX4_20 hx hb hown hts hK hw 0 rfl rfl dX4_readAll_33 ?_
            refine W.eq (g2 := F0 m 36 ls [.int (zTk tb n y1)]) (by rfl) ?_
            refine lv_iconst (v := 3) hx hb dX4_readAll_36 (by decide) ?_
            refine lv_icmp_eq (tgt := 43) hx hb dX4_readAll_37 (by decide) (fun c37 => ?_) (fun c37 => ?_)
            · have c37b := zTk_is3.mp c37
              refine lv_aload_n hx hb dX4_readAll_43 rfl (lv_at hl 0 rfl) ?_
              refine zcVmv (C1 := []) (C2 := (zTW x t S1 lk)) hx hb hml hown hts hl.1 hK hE hA lkX4_24 (c_X2_advance x b tb (zTp tb n y1 v3) (zEn tb n y1) n rfl rfl hn (zEn_le hy1)) ⟨Nat.le_of_ble_eq_true rfl, Nat.le_of_ble_eq_true rfl⟩ ⟨Nat.zero_le _, Nat.zero_le _⟩ hw 0 1 rfl rfl rfl rfl (Nat.le_of_ble_eq_true rfl) dX4_readAll_44 (fun H locs hw => ?_)
              have hw : zHw x A s.heap (zPW x b tb (zTp tb n (zNx tb n y1) (zTp tb n y1 v3 4)) ++ zTW x t S1 lk) H locs := hw
              refine lv_iinc (v := nI (k + 1)) (lv' := [(2, .int (nI (k + 1))), (0, .ref (b 1)), (1, .ref (t 0))]) hx hb dX4_readAll_47 hl (k := 2) rfl (nI_1 k) (by decide) rfl (fun ls hl => ?_)
              refine lv_goto (tgt := 6) hx hb dX4_readAll_50 (by decide) ?_
              exact ih6 fu (k + 1) (zNx tb n y1) S1 (zTp tb n y1 v3 4) (by omega) (zNx_le hy1) hI1 (by have := zNx_gt (B := tb) c37b.1; omega) (by have := zNx_gt (B := tb) c37b.1; omega) ((show zTe tb n fu k y1 S1 = _ from if_pos c37b).symm.trans ((zTx_o hz).symm.trans e1)) _ _ _ hw (lv_sub hl [1, 2, 0] rfl)
            · refine lv_goto (tgt := 53) hx hb dX4_readAll_40 (by decide) ?_
              refine lv_iconst (v := (-1)) hx hb dX4_readAll_53 (by decide) ?_
              refine lv_aload_n hx hb dX4_readAll_54 rfl (lv_at hl 0 rfl) ?_
              refine gfX4_27 hx hb hown hts hK hw 0 rfl rfl dX4_readAll_55 ?_
              refine W.eq (g2 := F0 m 58 ls [.int (nI y1), .int (-1)]) (by rfl) ?_
              refine lv_isub hx hb dX4_readAll_58 ?_
              exact zFG.iret hx hb hr hlocks hQ hw (zPT_fs _ _ _ _ _ _) dX4_readAll_59 (by
                  have hT : zTx tb n 121 1 (zRu tb n 32 32 0) U = (-1 - nI y1, none) := e1.symm.trans ((zTx_o hz).trans ((if_neg (fun h => c37 (zTk_is3.mpr h))).trans (if_pos hyn)))
                  exact ⟨zsi (by rw [hT]), zTp tb n y1 v3, S1, (fun S' h => by rw [hT] at h; cases h), rfl⟩)
          · have hyn : ¬ y1 < n := zTk_is0.mp c27
            refine lv_iload_n hx hb dX4_readAll_30 rfl (lv_at hl 2 rfl) ?_
            exact zFG.iret hx hb hr hlocks hQ hw (zPT_fs _ _ _ _ _ _) dX4_readAll_31 (by
                have hT : zTx tb n 121 1 (zRu tb n 32 32 0) U = (nI k, some S1) := e1.symm.trans ((zTx_o hz).trans ((if_neg (fun h => hyn h.1)).trans (if_neg hyn)))
                exact ⟨zsi (by rw [hT]), zTp tb n y1 v3, S1, (fun S' h => by rw [hT] at h; cases h; rfl), rfl⟩)
  exact loop6 (_ + 1) 121 1 (zRu tb n 32 32 0) U (tq 4) (Nat.lt_succ_self _) (zRu_le (Nat.zero_le n)) hI (by omega) (by omega) rfl _ _ _ hw (lv_sub hl [1, 2, 0] rfl)
