theorem zne1 {n : Nat} (h : n < 2 ^ 31) : ¬ nI n = -1 := fun e => nI_pos h (by rw [e]; decide)

theorem zKic (B : Nat → Int32) (n y : Nat) : (zIs B n y (zNm 0) ∧ zKi B n y 6 0 = 0) ∨ (¬ zIs B n y (zNm 0) ∧ zIs B n y (zNm 1) ∧ zKi B n y 6 0 = 1) ∨ (¬ zIs B n y (zNm 0) ∧ ¬ zIs B n y (zNm 1) ∧ zIs B n y (zNm 2) ∧ zKi B n y 6 0 = 2) ∨ (¬ zIs B n y (zNm 0) ∧ ¬ zIs B n y (zNm 1) ∧ ¬ zIs B n y (zNm 2) ∧ zIs B n y (zNm 3) ∧ zKi B n y 6 0 = 3) ∨ (¬ zIs B n y (zNm 0) ∧ ¬ zIs B n y (zNm 1) ∧ ¬ zIs B n y (zNm 2) ∧ ¬ zIs B n y (zNm 3) ∧ zIs B n y (zNm 4) ∧ zKi B n y 6 0 = 4) ∨ (¬ zIs B n y (zNm 0) ∧ ¬ zIs B n y (zNm 1) ∧ ¬ zIs B n y (zNm 2) ∧ ¬ zIs B n y (zNm 3) ∧ ¬ zIs B n y (zNm 4) ∧ zIs B n y (zNm 5) ∧ zKi B n y 6 0 = 5) ∨ (¬ zIs B n y (zNm 0) ∧ ¬ zIs B n y (zNm 1) ∧ ¬ zIs B n y (zNm 2) ∧ ¬ zIs B n y (zNm 3) ∧ ¬ zIs B n y (zNm 4) ∧ ¬ zIs B n y (zNm 5) ∧ zKi B n y 6 0 = 6 ∧ zIs B n y (zNm 11)) ∨ (¬ zIs B n y (zNm 0) ∧ ¬ zIs B n y (zNm 1) ∧ ¬ zIs B n y (zNm 2) ∧ ¬ zIs B n y (zNm 3) ∧ ¬ zIs B n y (zNm 4) ∧ ¬ zIs B n y (zNm 5) ∧ zKi B n y 6 0 = 6 ∧ ¬ zIs B n y (zNm 11) ∧ zIs B n y (zNm 14)) ∨ (¬ zIs B n y (zNm 0) ∧ ¬ zIs B n y (zNm 1) ∧ ¬ zIs B n y (zNm 2) ∧ ¬ zIs B n y (zNm 3) ∧ ¬ zIs B n y (zNm 4) ∧ ¬ zIs B n y (zNm 5) ∧ zKi B n y 6 0 = 6 ∧ ¬ zIs B n y (zNm 11) ∧ ¬ zIs B n y (zNm 14) ∧ zIs B n y (zNm 15)) ∨ (¬ zIs B n y (zNm 0) ∧ ¬ zIs B n y (zNm 1) ∧ ¬ zIs B n y (zNm 2) ∧ ¬ zIs B n y (zNm 3) ∧ ¬ zIs B n y (zNm 4) ∧ ¬ zIs B n y (zNm 5) ∧ zKi B n y 6 0 = 6 ∧ ¬ zIs B n y (zNm 11) ∧ ¬ zIs B n y (zNm 14) ∧ ¬ zIs B n y (zNm 15)) := by
  by_cases m0 : zIs B n y (zNm 0)
  · exact Or.inl ⟨m0, zKi_t m0⟩
  by_cases m1 : zIs B n y (zNm 1)
  · exact Or.inr (Or.inl ⟨m0, m1, (zKi_s m0).trans (zKi_t m1)⟩)
  by_cases m2 : zIs B n y (zNm 2)
  · exact Or.inr (Or.inr (Or.inl ⟨m0, m1, m2, (zKi_s m0).trans ((zKi_s m1).trans (zKi_t m2))⟩))
  by_cases m3 : zIs B n y (zNm 3)
  · exact Or.inr (Or.inr (Or.inr (Or.inl ⟨m0, m1, m2, m3, (zKi_s m0).trans ((zKi_s m1).trans ((zKi_s m2).trans (zKi_t m3)))⟩)))
  by_cases m4 : zIs B n y (zNm 4)
  · exact Or.inr (Or.inr (Or.inr (Or.inr (Or.inl ⟨m0, m1, m2, m3, m4, (zKi_s m0).trans ((zKi_s m1).trans ((zKi_s m2).trans ((zKi_s m3).trans (zKi_t m4))))⟩))))
  by_cases m5 : zIs B n y (zNm 5)
  · exact Or.inr (Or.inr (Or.inr (Or.inr (Or.inr (Or.inl ⟨m0, m1, m2, m3, m4, m5, (zKi_s m0).trans ((zKi_s m1).trans ((zKi_s m2).trans ((zKi_s m3).trans ((zKi_s m4).trans (zKi_t m5)))))⟩)))))
  have hki : zKi B n y 6 0 = 6 := (zKi_s m0).trans ((zKi_s m1).trans ((zKi_s m2).trans ((zKi_s m3).trans ((zKi_s m4).trans ((zKi_s m5).trans (rfl))))))
  by_cases hs : zIs B n y (zNm 11)
  · exact Or.inr (Or.inr (Or.inr (Or.inr (Or.inr (Or.inr (Or.inl ⟨m0, m1, m2, m3, m4, m5, hki, hs⟩))))))
  by_cases hb1 : zIs B n y (zNm 14)
  · exact Or.inr (Or.inr (Or.inr (Or.inr (Or.inr (Or.inr (Or.inr (Or.inl ⟨m0, m1, m2, m3, m4, m5, hki, hs, hb1⟩)))))))
  by_cases hm1 : zIs B n y (zNm 15)
  · exact Or.inr (Or.inr (Or.inr (Or.inr (Or.inr (Or.inr (Or.inr (Or.inr (Or.inl ⟨m0, m1, m2, m3, m4, m5, hki, hs, hb1, hm1⟩))))))))
  exact Or.inr (Or.inr (Or.inr (Or.inr (Or.inr (Or.inr (Or.inr (Or.inr (Or.inr (⟨m0, m1, m2, m3, m4, m5, hki, hs, hb1, hm1⟩)))))))))

set_option maxHeartbeats 4000000 in
set_option maxRecDepth 100000 in
theorem c_X4_readHole (x : zX) (b t : Nat → Nat) (tb : Nat → Int32) (n y : Nat) (v lk : Int32) (U : zT) (hn : n ≤ 120) (hy : y ≤ n) (k : Nat) (hI : zInv U) : zFG x mX4_readHole 6 [.ref (b 1), .ref (t 0), .int (nI k)] (zPW x b tb (zTp tb n y v) ++ zTW x t U lk) (fun v' u' => zPC x b t lk tb n (zHo tb n y U k) v' u') := by
  refine zFG.start RX4 cX4_readHole 6 (some .boolean) rfl rfl (by decide +kernel) (Nat.le_of_ble_eq_true rfl) ?_
  intro p e s m ar below meth c ls A Q hx hb hr hml hown hts hlocks hK hE hA hQ hl hw
  have hl : lv_has ls 6 [(0, .ref (b 1)), (1, .ref (t 0)), (2, .int (nI k))] := hl
  have hw : zHw x A s.heap (zPW x b tb (zTp tb n y v) ++ zTW x t U lk) s.heap [] := hw
  refine lv_aload_n hx hb dX4_readHole_0 rfl (lv_at hl 1 rfl) ?_
  refine zcVmi (r := zb (8 ≤ U 0 0)) (C1 := (zPW x b tb (zTp tb n y v))) (C2 := []) hx hb hml hown hts hl.1 hK hE hA lkX4_66 (c_X3_isFull x t U lk) ⟨Nat.le_of_ble_eq_true rfl, Nat.le_of_ble_eq_true rfl⟩ ⟨Nat.zero_le _, Nat.zero_le _⟩ hw 0 2 rfl rfl rfl rfl (Nat.le_of_ble_eq_true rfl) dX4_readHole_1 (fun H locs hw => ?_)
  have hw : zHw x A s.heap (zPW x b tb (zTp tb n y v) ++ zTW x t U lk) H locs := hw
  refine lv_if_eq (tgt := 9) hx hb dX4_readHole_4 (by decide) (fun c4 => ?_) (fun c4 => ?_)
  · have c4 := zb_0.mp c4
    have h8 : U 0 0 < 8 := Int32.not_le.mp c4
    have hz0 := zN_0 hI
    have hz8 : zN U < 8 := by
      rw [hz0] at h8
      exact (nI_ltI (b := 8) (by have := zN_le hI; omega) (by decide)).mp h8
    refine lv_aload_n hx hb dX4_readHole_9 rfl (lv_at hl 0 rfl) ?_
    refine zcVmv (C1 := []) (C2 := (zTW x t U lk)) hx hb hml hown hts hl.1 hK hE hA lkX4_24 (c_X2_advance x b tb (zTp tb n y v) (zEn tb n y) n rfl rfl hn (zEn_le hy)) ⟨Nat.le_of_ble_eq_true rfl, Nat.le_of_ble_eq_true rfl⟩ ⟨Nat.zero_le _, Nat.zero_le _⟩ hw 0 1 rfl rfl rfl rfl (Nat.le_of_ble_eq_true rfl) dX4_readHole_10 (fun H locs hw => ?_)
    have hw : zHw x A s.heap (zPW x b tb (zTp tb n (zNx tb n y) (zTp tb n y v 4)) ++ zTW x t U lk) H locs := hw
    refine lv_aload_n hx hb dX4_readHole_13 rfl (lv_at hl 0 rfl) ?_
    have K39 : ∀ (y1 : Nat) (st : Nat) (v1 : Int32), (hy1 : y1 ≤ n) → (hst : st ≤ 5) → (hz1 : zPa tb n (zNx tb n y) (zNm 6) 5 (zAd U (nI k) 0) 4 (zN U) = .inr (y1, zAd U (nI k) (nI st))) → ∀ (H : Heap) (locs : List Loc) (ls : Array Slot), zHw x A s.heap (zPW x b tb (zTp tb n y1 v1) ++ zTW x t U lk) H locs → lv_has ls 6 [(0, .ref (b 1)), (1, .ref (t 0)), (2, .int (nI k)), (3, .int (nI st))] → W p x.1 e (zRM 6) s m ar below meth c H locs 0 0 Q (F0 m 39 ls []) := by
      intro y1 st v1 hy1 hst hz1 H locs ls hw hl
      refine lv_aload_n hx hb dX4_readHole_39 rfl (lv_at hl 0 rfl) ?_
      have K68 : ∀ (y2 : Nat) (sz : Nat) (v2 : Int32), (hy2 : y2 ≤ n) → (hsz : sz ≤ 99) → (hz2 : zPa tb n y1 (zNm 7) 99 (zAd U (nI k) (nI st)) 5 (zN U) = .inr (y2, zU (zAd U (nI k) (nI st)) 5 (zN U) (nI sz))) → ∀ (H : Heap) (locs : List Loc) (ls : Array Slot), zHw x A s.heap (zPW x b tb (zTp tb n y2 v2) ++ zTW x t U lk) H locs → lv_has ls 6 [(0, .ref (b 1)), (1, .ref (t 0)), (2, .int (nI k)), (3, .int (nI st)), (4, .int (nI sz))] → W p x.1 e (zRM 6) s m ar below meth c H locs 0 0 Q (F0 m 68 ls []) := by
        intro y2 sz v2 hy2 hsz hz2 H locs ls hw hl
        refine lv_aload_n hx hb dX4_readHole_68 rfl (lv_at hl 1 rfl) ?_
        refine lv_iload_n hx hb dX4_readHole_69 rfl (lv_at hl 2 rfl) ?_
        refine lv_iload_n hx hb dX4_readHole_70 rfl (lv_at hl 3 rfl) ?_
        refine zcVmi (r := nI (zN U)) (C1 := (zPW x b tb (zTp tb n y2 v2))) (C2 := []) hx hb hml hown hts hl.1 hK hE hA lkX4_74 (c_X3_addHole x t U lk (nI k) (nI st) hz0 hz8) ⟨Nat.le_of_ble_eq_true rfl, Nat.le_of_ble_eq_true rfl⟩ ⟨Nat.zero_le _, Nat.zero_le _⟩ hw 0 2 rfl rfl rfl rfl (Nat.le_of_ble_eq_true rfl) dX4_readHole_71 (fun H locs hw => ?_)
        have hw : zHw x A s.heap (zPW x b tb (zTp tb n y2 v2) ++ zTW x t (zAd U (nI k) (nI st)) lk) H locs := hw
        refine lv_istore (lv' := [(5, .int (nI (zN U))), (0, .ref (b 1)), (1, .ref (t 0)), (2, .int (nI k)), (3, .int (nI st)), (4, .int (nI sz))]) hx hb dX4_readHole_74 hl (by decide) rfl (fun ls hl => ?_)
        refine lv_aload_n hx hb dX4_readHole_76 rfl (lv_at hl 2 rfl) ?_
        refine gfX4_78 hx hb hown hts hK hw 2 rfl rfl dX4_readHole_77 ?_
        refine lv_iload hx hb dX4_readHole_80 (lv_at hl 0 rfl) ?_
        refine lv_iload hx hb dX4_readHole_82 (lv_at hl 5 rfl) ?_
        refine zias hx hb hK hw 7 0 (zN U) rfl rfl rfl (by omega) (by decide) dX4_readHole_84 (fun H locs hw => ?_)
        have hw : zHw x A s.heap (zPW x b tb (zTp tb n y2 v2) ++ zTW x t (zU (zAd U (nI k) (nI st)) 5 (zN U) (nI sz)) lk) H locs := hw
        obtain ⟨S2, hS2⟩ : ∃ S2, S2 = zU (zAd U (nI k) (nI st)) 5 (zN U) (nI sz) := ⟨_, rfl⟩
        rw [← hS2] at hz2
        have h62 : S2 6 (zN U) = 0 := by rw [hS2, zU_ne _ _ (fun h => absurd h.1 (by decide)), zAd_6]
        have h82 : S2 8 (zN U) = 0 := by rw [hS2, zU_ne _ _ (fun h => absurd h.1 (by decide)), zAd_8]
        have hw : zHw x A s.heap (zPW x b tb (zTp tb n y2 v2) ++ zTW x t S2 lk) H locs := hw.re (by rw [hS2])
        refine lv_aload_n hx hb dX4_readHole_85 rfl (lv_at hl 1 rfl) ?_
        have K122 : ∀ (y4 : Nat) (S4 : zT) (v4 : Int32), (hy4 : y4 ≤ n) → (h34 : ∃ y3 S3, zWi tb n y2 (zNm 8) S2 6 (zN U) 1 = (y3, S3) ∧ (if S3 6 (zN U) = 0 then zWi tb n y3 (zNm 9) S3 6 (zN U) 2 else (y3, S3)) = (y4, S4)) → (h84 : S4 8 (zN U) = 0) → ∀ (H : Heap) (locs : List Loc) (ls : Array Slot), zHw x A s.heap (zPW x b tb (zTp tb n y4 v4) ++ zTW x t S4 lk) H locs → lv_has ls 6 [(0, .ref (b 1)), (1, .ref (t 0)), (5, .int (nI (zN U)))] → W p x.1 e (zRM 6) s m ar below meth c H locs 0 0 Q (F0 m 122 ls []) := by
          intro y4 S4 v4 hy4 h34 h84 H locs ls hw hl
          obtain ⟨y3, S3, hz3, hz4⟩ := h34
          refine lv_aload_n hx hb dX4_readHole_122 rfl (lv_at hl 1 rfl) ?_
          refine gfX4_89 hx hb hown hts hK hw 2 rfl rfl dX4_readHole_123 ?_
          refine lv_iload hx hb dX4_readHole_126 (lv_at hl 2 rfl) ?_
          refine lv_aload_n hx hb dX4_readHole_128 rfl (lv_at hl 0 rfl) ?_
          rcases Decidable.em (zIs tb n y4 (zNm 10)) with s5 | s5
          · refine zldS hx hb hE hw hown 10 (by decide) rfl rfl dX4_readHole_129 ?_
            refine zcVmi (r := 1) (C1 := []) (C2 := (zTW x t S4 lk)) hx hb hml hown hts hl.1 hK hE hA lkX4_46 (c_X2_pass_t x b tb n y4 v4 hn hy4 10 (by decide) s5) ⟨Nat.le_of_ble_eq_true rfl, Nat.le_of_ble_eq_true rfl⟩ ⟨Nat.zero_le _, Nat.zero_le _⟩ hw 0 1 rfl rfl rfl rfl (Nat.le_of_ble_eq_true rfl) dX4_readHole_131 (fun H locs hw => ?_)
            have hw : zHw x A s.heap (zPW x b tb (zTp tb n (zNx tb n y4) v4) ++ zTW x t S4 lk) H locs := hw
            refine lv_if_eq (tgt := 141) hx hb dX4_readHole_134 (by decide) (fun c134 => absurd c134 (by decide)) (fun c134 => ?_)
            refine lv_iconst (v := 1) hx hb dX4_readHole_137 (by decide) ?_
            refine lv_goto (tgt := 142) hx hb dX4_readHole_138 (by decide) ?_
            refine zias hx hb hK hw 10 0 (zN U) rfl rfl rfl (by omega) (by decide) dX4_readHole_142 (fun H locs hw => ?_)
            have hw : zHw x A s.heap (zPW x b tb (zTp tb n (zNx tb n y4) v4) ++ zTW x t (zU S4 8 (zN U) 1) lk) H locs := hw
            refine lv_iconst (v := 1) hx hb dX4_readHole_143 (by decide) ?_
            exact zFG.zret hx hb hr hlocks hQ hw (zPT_fs _ _ _ _ _ _) dX4_readHole_144 (by decide) (zPC.o (zHo_3 h8 hz1 hz2 hz3 hz4 (zWi_t s5)))
          · refine zldS hx hb hE hw hown 10 (by decide) rfl rfl dX4_readHole_129 ?_
            refine zcVmi (r := 0) (C1 := []) (C2 := (zTW x t S4 lk)) hx hb hml hown hts hl.1 hK hE hA lkX4_46 (c_X2_pass_f x b tb n y4 v4 hn hy4 10 (by decide) s5) ⟨Nat.le_of_ble_eq_true rfl, Nat.le_of_ble_eq_true rfl⟩ ⟨Nat.zero_le _, Nat.zero_le _⟩ hw 0 1 rfl rfl rfl rfl (Nat.le_of_ble_eq_true rfl) dX4_readHole_131 (fun H locs hw => ?_)
            have hw : zHw x A s.heap (zPW x b tb (zTp tb n y4 v4) ++ zTW x t S4 lk) H locs := hw
            refine lv_if_eq (tgt := 141) hx hb dX4_readHole_134 (by decide) (fun c134 => ?_) (fun c134 => absurd (by decide) c134)
            refine lv_iconst (v := 0) hx hb dX4_readHole_141 (by decide) ?_
            refine zias hx hb hK hw 10 0 (zN U) rfl rfl rfl (by omega) (by decide) dX4_readHole_142 (fun H locs hw => ?_)
            have hw : zHw x A s.heap (zPW x b tb (zTp tb n y4 v4) ++ zTW x t (zU S4 8 (zN U) 0) lk) H locs := hw
            have hw : zHw x A s.heap (zPW x b tb (zTp tb n y4 v4) ++ zTW x t S4 lk) H locs := hw.re (by rw [zU_eq h84])
            refine lv_iconst (v := 1) hx hb dX4_readHole_143 (by decide) ?_
            exact zFG.zret hx hb hr hlocks hQ hw (zPT_fs _ _ _ _ _ _) dX4_readHole_144 (by decide) (zPC.o (zHo_3 h8 hz1 hz2 hz3 hz4 (zWi_f s5)))
        rcases Decidable.em (zIs tb n y2 (zNm 8)) with s3 | s3
        · refine zldS hx hb hE hw hown 8 (by decide) rfl rfl dX4_readHole_86 ?_
          refine zcVmi (r := 1) (C1 := []) (C2 := (zTW x t S2 lk)) hx hb hml hown hts hl.1 hK hE hA lkX4_46 (c_X2_pass_t x b tb n y2 v2 hn hy2 8 (by decide) s3) ⟨Nat.le_of_ble_eq_true rfl, Nat.le_of_ble_eq_true rfl⟩ ⟨Nat.zero_le _, Nat.zero_le _⟩ hw 0 1 rfl rfl rfl rfl (Nat.le_of_ble_eq_true rfl) dX4_readHole_88 (fun H locs hw => ?_)
          have hw : zHw x A s.heap (zPW x b tb (zTp tb n (zNx tb n y2) v2) ++ zTW x t S2 lk) H locs := hw
          refine lv_if_eq (tgt := 105) hx hb dX4_readHole_91 (by decide) (fun c91 => absurd c91 (by decide)) (fun c91 => ?_)
          refine lv_aload_n hx hb dX4_readHole_94 rfl (lv_at hl 2 rfl) ?_
          refine gfX4_84 hx hb hown hts hK hw 2 rfl rfl dX4_readHole_95 ?_
          refine lv_iload hx hb dX4_readHole_98 (lv_at hl 0 rfl) ?_
          refine lv_iconst (v := 1) hx hb dX4_readHole_100 (by decide) ?_
          refine zias hx hb hK hw 8 0 (zN U) rfl rfl rfl (by omega) (by decide) dX4_readHole_101 (fun H locs hw => ?_)
          have hw : zHw x A s.heap (zPW x b tb (zTp tb n (zNx tb n y2) v2) ++ zTW x t (zU S2 6 (zN U) 1) lk) H locs := hw
          refine lv_goto (tgt := 122) hx hb dX4_readHole_102 (by decide) ?_
          exact K122 (zNx tb n y2) (zU S2 6 (zN U) 1) v2 (zNx_le hy2) (⟨_, _, zWi_t s3, if_neg (by rw [zU_at]; decide)⟩) ((zU_ne _ _ (fun h => absurd h.1 (by decide))).trans h82) _ _ _ hw (lv_sub hl [1, 2, 0] rfl)
        · refine zldS hx hb hE hw hown 8 (by decide) rfl rfl dX4_readHole_86 ?_
          refine zcVmi (r := 0) (C1 := []) (C2 := (zTW x t S2 lk)) hx hb hml hown hts hl.1 hK hE hA lkX4_46 (c_X2_pass_f x b tb n y2 v2 hn hy2 8 (by decide) s3) ⟨Nat.le_of_ble_eq_true rfl, Nat.le_of_ble_eq_true rfl⟩ ⟨Nat.zero_le _, Nat.zero_le _⟩ hw 0 1 rfl rfl rfl rfl (Nat.le_of_ble_eq_true rfl) dX4_readHole_88 (fun H locs hw => ?_)
          have hw : zHw x A s.heap (zPW x b tb (zTp tb n y2 v2) ++ zTW x t S2 lk) H locs := hw
          refine lv_if_eq (tgt := 105) hx hb dX4_readHole_91 (by decide) (fun c91 => ?_) (fun c91 => absurd (by decide) c91)
          refine lv_aload_n hx hb dX4_readHole_105 rfl (lv_at hl 1 rfl) ?_
          rcases Decidable.em (zIs tb n y2 (zNm 9)) with s4 | s4
          · refine zldS hx hb hE hw hown 9 (by decide) rfl rfl dX4_readHole_106 ?_
            refine zcVmi (r := 1) (C1 := []) (C2 := (zTW x t S2 lk)) hx hb hml hown hts hl.1 hK hE hA lkX4_46 (c_X2_pass_t x b tb n y2 v2 hn hy2 9 (by decide) s4) ⟨Nat.le_of_ble_eq_true rfl, Nat.le_of_ble_eq_true rfl⟩ ⟨Nat.zero_le _, Nat.zero_le _⟩ hw 0 1 rfl rfl rfl rfl (Nat.le_of_ble_eq_true rfl) dX4_readHole_108 (fun H locs hw => ?_)
            have hw : zHw x A s.heap (zPW x b tb (zTp tb n (zNx tb n y2) v2) ++ zTW x t S2 lk) H locs := hw
            refine lv_if_eq (tgt := 122) hx hb dX4_readHole_111 (by decide) (fun c111 => absurd c111 (by decide)) (fun c111 => ?_)
            refine lv_aload_n hx hb dX4_readHole_114 rfl (lv_at hl 2 rfl) ?_
            refine gfX4_84 hx hb hown hts hK hw 2 rfl rfl dX4_readHole_115 ?_
            refine lv_iload hx hb dX4_readHole_118 (lv_at hl 0 rfl) ?_
            refine lv_iconst (v := 2) hx hb dX4_readHole_120 (by decide) ?_
            refine zias hx hb hK hw 8 0 (zN U) rfl rfl rfl (by omega) (by decide) dX4_readHole_121 (fun H locs hw => ?_)
            have hw : zHw x A s.heap (zPW x b tb (zTp tb n (zNx tb n y2) v2) ++ zTW x t (zU S2 6 (zN U) 2) lk) H locs := hw
            exact K122 (zNx tb n y2) (zU S2 6 (zN U) 2) v2 (zNx_le hy2) (⟨_, _, zWi_f s3, (if_pos h62).trans (zWi_t s4)⟩) ((zU_ne _ _ (fun h => absurd h.1 (by decide))).trans h82) _ _ _ hw (lv_sub hl [1, 2, 0] rfl)
          · refine zldS hx hb hE hw hown 9 (by decide) rfl rfl dX4_readHole_106 ?_
            refine zcVmi (r := 0) (C1 := []) (C2 := (zTW x t S2 lk)) hx hb hml hown hts hl.1 hK hE hA lkX4_46 (c_X2_pass_f x b tb n y2 v2 hn hy2 9 (by decide) s4) ⟨Nat.le_of_ble_eq_true rfl, Nat.le_of_ble_eq_true rfl⟩ ⟨Nat.zero_le _, Nat.zero_le _⟩ hw 0 1 rfl rfl rfl rfl (Nat.le_of_ble_eq_true rfl) dX4_readHole_108 (fun H locs hw => ?_)
            have hw : zHw x A s.heap (zPW x b tb (zTp tb n y2 v2) ++ zTW x t S2 lk) H locs := hw
            refine lv_if_eq (tgt := 122) hx hb dX4_readHole_111 (by decide) (fun c111 => ?_) (fun c111 => absurd (by decide) c111)
            exact K122 y2 S2 v2 hy2 (⟨_, _, zWi_f s3, (if_pos h62).trans (zWi_f s4)⟩) h82 _ _ _ hw (lv_sub hl [1, 2, 0] rfl)
      rcases Decidable.em (zIs tb n y1 (zNm 7)) with s2 | s2
      · refine zldS hx hb hE hw hown 7 (by decide) rfl rfl dX4_readHole_40 ?_
        refine zcVmi (r := 1) (C1 := []) (C2 := (zTW x t U lk)) hx hb hml hown hts hl.1 hK hE hA lkX4_46 (c_X2_pass_t x b tb n y1 v1 hn hy1 7 (by decide) s2) ⟨Nat.le_of_ble_eq_true rfl, Nat.le_of_ble_eq_true rfl⟩ ⟨Nat.zero_le _, Nat.zero_le _⟩ hw 0 1 rfl rfl rfl rfl (Nat.le_of_ble_eq_true rfl) dX4_readHole_42 (fun H locs hw => ?_)
        have hw : zHw x A s.heap (zPW x b tb (zTp tb n (zNx tb n y1) v1) ++ zTW x t U lk) H locs := hw
        refine lv_if_eq (tgt := 57) hx hb dX4_readHole_45 (by decide) (fun c45 => absurd c45 (by decide)) (fun c45 => ?_)
        rcases hq2 : zNu tb n (zNx tb n y1) 99 with _ | sz
        · refine lv_aload_n hx hb dX4_readHole_48 rfl (lv_at hl 0 rfl) ?_
          refine lv_bipush (v := 99) hx hb dX4_readHole_49 (by decide) ?_
          refine zcVmi (r := (-1)) (C1 := []) (C2 := (zTW x t U lk)) hx hb hml hown hts hl.1 hK hE hA lkX4_54 (c_X2_passNumber_n x b tb n (zNx tb n y1) v1 hn (zNx_le hy1) 99 (by decide) hq2) ⟨Nat.le_of_ble_eq_true rfl, Nat.le_of_ble_eq_true rfl⟩ ⟨Nat.zero_le _, Nat.zero_le _⟩ hw 0 1 rfl rfl rfl rfl (Nat.le_of_ble_eq_true rfl) dX4_readHole_51 (fun H locs hw => ?_)
          have hw : zHw x A s.heap (zPW x b tb (zTp tb n (zNx tb n y1) v1) ++ zTW x t U lk) H locs := hw
          refine lv_goto (tgt := 58) hx hb dX4_readHole_54 (by decide) ?_
          refine lv_istore (lv' := [(4, .int (-1)), (0, .ref (b 1)), (1, .ref (t 0)), (2, .int (nI k)), (3, .int (nI st))]) hx hb dX4_readHole_58 hl (by decide) rfl (fun ls hl => ?_)
          refine lv_iload hx hb dX4_readHole_60 (lv_at hl 0 rfl) ?_
          refine lv_iconst (v := (-1)) hx hb dX4_readHole_62 (by decide) ?_
          refine lv_icmp_ne (tgt := 68) hx hb dX4_readHole_63 (by decide) (fun c63 => absurd c63 (by decide)) (fun c63 => ?_)
          refine lv_iconst (v := 0) hx hb dX4_readHole_66 (by decide) ?_
          exact zFG.zret hx hb hr hlocks hQ hw (zPT_fs _ _ _ _ _ _) dX4_readHole_67 (by decide) (zPC.i (zHo_2 h8 hz1 (zPa_f s2 hq2)))
        · have hszm := zNu_le hq2
          refine lv_aload_n hx hb dX4_readHole_48 rfl (lv_at hl 0 rfl) ?_
          refine lv_bipush (v := 99) hx hb dX4_readHole_49 (by decide) ?_
          refine zcVmi (r := nI sz) (C1 := []) (C2 := (zTW x t U lk)) hx hb hml hown hts hl.1 hK hE hA lkX4_54 (c_X2_passNumber_s x b tb n (zNx tb n y1) v1 hn (zNx_le hy1) 99 sz (by decide) hq2) ⟨Nat.le_of_ble_eq_true rfl, Nat.le_of_ble_eq_true rfl⟩ ⟨Nat.zero_le _, Nat.zero_le _⟩ hw 0 1 rfl rfl rfl rfl (Nat.le_of_ble_eq_true rfl) dX4_readHole_51 (fun H locs hw => ?_)
          have hw : zHw x A s.heap (zPW x b tb (zTp tb n (zNx tb n (zNx tb n y1)) (nI sz)) ++ zTW x t U lk) H locs := hw
          refine lv_goto (tgt := 58) hx hb dX4_readHole_54 (by decide) ?_
          refine lv_istore (lv' := [(4, .int (nI sz)), (0, .ref (b 1)), (1, .ref (t 0)), (2, .int (nI k)), (3, .int (nI st))]) hx hb dX4_readHole_58 hl (by decide) rfl (fun ls hl => ?_)
          refine lv_iload hx hb dX4_readHole_60 (lv_at hl 0 rfl) ?_
          refine lv_iconst (v := (-1)) hx hb dX4_readHole_62 (by decide) ?_
          refine lv_icmp_ne (tgt := 68) hx hb dX4_readHole_63 (by decide) (fun c63 => ?_) (fun c63 => absurd c63 (fun h => absurd h (zne1 (by omega))))
          exact K68 (zNx tb n (zNx tb n y1)) sz (nI sz) (zNx_le (zNx_le hy1)) (by omega) (zPa_t s2 hq2) _ _ _ hw (lv_sub hl [1, 2, 3, 4, 0] rfl)
      · refine zldS hx hb hE hw hown 7 (by decide) rfl rfl dX4_readHole_40 ?_
        refine zcVmi (r := 0) (C1 := []) (C2 := (zTW x t U lk)) hx hb hml hown hts hl.1 hK hE hA lkX4_46 (c_X2_pass_f x b tb n y1 v1 hn hy1 7 (by decide) s2) ⟨Nat.le_of_ble_eq_true rfl, Nat.le_of_ble_eq_true rfl⟩ ⟨Nat.zero_le _, Nat.zero_le _⟩ hw 0 1 rfl rfl rfl rfl (Nat.le_of_ble_eq_true rfl) dX4_readHole_42 (fun H locs hw => ?_)
        have hw : zHw x A s.heap (zPW x b tb (zTp tb n y1 v1) ++ zTW x t U lk) H locs := hw
        refine lv_if_eq (tgt := 57) hx hb dX4_readHole_45 (by decide) (fun c45 => ?_) (fun c45 => absurd (by decide) c45)
        refine lv_iconst (v := 5) hx hb dX4_readHole_57 (by decide) ?_
        refine lv_istore (lv' := [(4, .int 5), (0, .ref (b 1)), (1, .ref (t 0)), (2, .int (nI k)), (3, .int (nI st))]) hx hb dX4_readHole_58 hl (by decide) rfl (fun ls hl => ?_)
        refine lv_iload hx hb dX4_readHole_60 (lv_at hl 0 rfl) ?_
        refine lv_iconst (v := (-1)) hx hb dX4_readHole_62 (by decide) ?_
        refine lv_icmp_ne (tgt := 68) hx hb dX4_readHole_63 (by decide) (fun c63 => ?_) (fun c63 => absurd c63 (by decide))
        exact K68 y1 5 v1 hy1 (by omega) ((zPa_n s2).trans (by rw [zU_eq (show zAd U (nI k) (nI st) 5 (zN U) = nI 5 from zAd_5 _ _ _)])) _ _ _ hw (lv_sub hl [1, 2, 3, 4, 0] rfl)
    rcases Decidable.em (zIs tb n (zNx tb n y) (zNm 6)) with s1 | s1
    · refine zldS hx hb hE hw hown 6 (by decide) rfl rfl dX4_readHole_14 ?_
      refine zcVmi (r := 1) (C1 := []) (C2 := (zTW x t U lk)) hx hb hml hown hts hl.1 hK hE hA lkX4_46 (c_X2_pass_t x b tb n (zNx tb n y) (zTp tb n y v 4) hn (zNx_le hy) 6 (by decide) s1) ⟨Nat.le_of_ble_eq_true rfl, Nat.le_of_ble_eq_true rfl⟩ ⟨Nat.zero_le _, Nat.zero_le _⟩ hw 0 1 rfl rfl rfl rfl (Nat.le_of_ble_eq_true rfl) dX4_readHole_16 (fun H locs hw => ?_)
      have hw : zHw x A s.heap (zPW x b tb (zTp tb n (zNx tb n (zNx tb n y)) (zTp tb n y v 4)) ++ zTW x t U lk) H locs := hw
      refine lv_if_eq (tgt := 30) hx hb dX4_readHole_19 (by decide) (fun c19 => absurd c19 (by decide)) (fun c19 => ?_)
      rcases hq1 : zNu tb n (zNx tb n (zNx tb n y)) 5 with _ | st
      · refine lv_aload_n hx hb dX4_readHole_22 rfl (lv_at hl 0 rfl) ?_
        refine lv_iconst (v := 5) hx hb dX4_readHole_23 (by decide) ?_
        refine zcVmi (r := (-1)) (C1 := []) (C2 := (zTW x t U lk)) hx hb hml hown hts hl.1 hK hE hA lkX4_54 (c_X2_passNumber_n x b tb n (zNx tb n (zNx tb n y)) (zTp tb n y v 4) hn (zNx_le (zNx_le hy)) 5 (by decide) hq1) ⟨Nat.le_of_ble_eq_true rfl, Nat.le_of_ble_eq_true rfl⟩ ⟨Nat.zero_le _, Nat.zero_le _⟩ hw 0 1 rfl rfl rfl rfl (Nat.le_of_ble_eq_true rfl) dX4_readHole_24 (fun H locs hw => ?_)
        have hw : zHw x A s.heap (zPW x b tb (zTp tb n (zNx tb n (zNx tb n y)) (zTp tb n y v 4)) ++ zTW x t U lk) H locs := hw
        refine lv_goto (tgt := 31) hx hb dX4_readHole_27 (by decide) ?_
        refine lv_istore_n (lv' := [(3, .int (-1)), (0, .ref (b 1)), (1, .ref (t 0)), (2, .int (nI k))]) hx hb dX4_readHole_31 rfl hl (by decide) rfl (fun ls hl => ?_)
        refine lv_iload_n hx hb dX4_readHole_32 rfl (lv_at hl 0 rfl) ?_
        refine lv_iconst (v := (-1)) hx hb dX4_readHole_33 (by decide) ?_
        refine lv_icmp_ne (tgt := 39) hx hb dX4_readHole_34 (by decide) (fun c34 => absurd c34 (by decide)) (fun c34 => ?_)
        refine lv_iconst (v := 0) hx hb dX4_readHole_37 (by decide) ?_
        exact zFG.zret hx hb hr hlocks hQ hw (zPT_fs _ _ _ _ _ _) dX4_readHole_38 (by decide) (zPC.i (zHo_1 h8 (zPa_f s1 hq1)))
      · have hstm := zNu_le hq1
        refine lv_aload_n hx hb dX4_readHole_22 rfl (lv_at hl 0 rfl) ?_
        refine lv_iconst (v := 5) hx hb dX4_readHole_23 (by decide) ?_
        refine zcVmi (r := nI st) (C1 := []) (C2 := (zTW x t U lk)) hx hb hml hown hts hl.1 hK hE hA lkX4_54 (c_X2_passNumber_s x b tb n (zNx tb n (zNx tb n y)) (zTp tb n y v 4) hn (zNx_le (zNx_le hy)) 5 st (by decide) hq1) ⟨Nat.le_of_ble_eq_true rfl, Nat.le_of_ble_eq_true rfl⟩ ⟨Nat.zero_le _, Nat.zero_le _⟩ hw 0 1 rfl rfl rfl rfl (Nat.le_of_ble_eq_true rfl) dX4_readHole_24 (fun H locs hw => ?_)
        have hw : zHw x A s.heap (zPW x b tb (zTp tb n (zNx tb n (zNx tb n (zNx tb n y))) (nI st)) ++ zTW x t U lk) H locs := hw
        refine lv_goto (tgt := 31) hx hb dX4_readHole_27 (by decide) ?_
        refine lv_istore_n (lv' := [(3, .int (nI st)), (0, .ref (b 1)), (1, .ref (t 0)), (2, .int (nI k))]) hx hb dX4_readHole_31 rfl hl (by decide) rfl (fun ls hl => ?_)
        refine lv_iload_n hx hb dX4_readHole_32 rfl (lv_at hl 0 rfl) ?_
        refine lv_iconst (v := (-1)) hx hb dX4_readHole_33 (by decide) ?_
        refine lv_icmp_ne (tgt := 39) hx hb dX4_readHole_34 (by decide) (fun c34 => ?_) (fun c34 => absurd c34 (fun h => absurd h (zne1 (by omega))))
        exact K39 (zNx tb n (zNx tb n (zNx tb n y))) st (nI st) (zNx_le (zNx_le (zNx_le hy))) (by omega) ((zPa_t s1 hq1).trans (by rw [zAd_st])) _ _ _ hw (lv_sub hl [1, 2, 3, 0] rfl)
    · refine zldS hx hb hE hw hown 6 (by decide) rfl rfl dX4_readHole_14 ?_
      refine zcVmi (r := 0) (C1 := []) (C2 := (zTW x t U lk)) hx hb hml hown hts hl.1 hK hE hA lkX4_46 (c_X2_pass_f x b tb n (zNx tb n y) (zTp tb n y v 4) hn (zNx_le hy) 6 (by decide) s1) ⟨Nat.le_of_ble_eq_true rfl, Nat.le_of_ble_eq_true rfl⟩ ⟨Nat.zero_le _, Nat.zero_le _⟩ hw 0 1 rfl rfl rfl rfl (Nat.le_of_ble_eq_true rfl) dX4_readHole_16 (fun H locs hw => ?_)
      have hw : zHw x A s.heap (zPW x b tb (zTp tb n (zNx tb n y) (zTp tb n y v 4)) ++ zTW x t U lk) H locs := hw
      refine lv_if_eq (tgt := 30) hx hb dX4_readHole_19 (by decide) (fun c19 => ?_) (fun c19 => absurd (by decide) c19)
      refine lv_iconst (v := 0) hx hb dX4_readHole_30 (by decide) ?_
      refine lv_istore_n (lv' := [(3, .int 0), (0, .ref (b 1)), (1, .ref (t 0)), (2, .int (nI k))]) hx hb dX4_readHole_31 rfl hl (by decide) rfl (fun ls hl => ?_)
      refine lv_iload_n hx hb dX4_readHole_32 rfl (lv_at hl 0 rfl) ?_
      refine lv_iconst (v := (-1)) hx hb dX4_readHole_33 (by decide) ?_
      refine lv_icmp_ne (tgt := 39) hx hb dX4_readHole_34 (by decide) (fun c34 => ?_) (fun c34 => absurd c34 (by decide))
      exact K39 (zNx tb n y) 0 (zTp tb n y v 4) (zNx_le hy) (by omega) (zPa_n s1) _ _ _ hw (lv_sub hl [1, 2, 3, 0] rfl)
  · have c4 := zb_n0.mp c4
    refine lv_iconst (v := 0) hx hb dX4_readHole_7 (by decide) ?_
    exact zFG.zret hx hb hr hlocks hQ hw (zPT_fs _ _ _ _ _ _) dX4_readHole_8 (by decide) (zPC.i (show zHo tb n y U k = .inl y from if_neg (Int32.not_lt.mpr c4)))

set_option maxHeartbeats 4000000 in
set_option maxRecDepth 100000 in
theorem c_X4_readStreet (x : zX) (b t : Nat → Nat) (tb : Nat → Int32) (n y : Nat) (v lk : Int32) (U : zT) (hn : n ≤ 120) (hy : y ≤ n) (hI : zInv U) : zFG x mX4_readStreet 6 [.ref (b 1), .ref (t 0)] (zPW x b tb (zTp tb n (zNx tb n y) v) ++ zTW x t U lk) (fun v' u' => zPC x b t lk tb n (zSq tb n y U) v' u') := by
  refine zFG.start RX4 cX4_readStreet 4 (some .boolean) rfl rfl (by decide +kernel) (Nat.le_of_ble_eq_true rfl) ?_
  intro p e s m ar below meth c ls A Q hx hb hr hml hown hts hlocks hK hE hA hQ hl hw
  have hl : lv_has ls 4 [(0, .ref (b 1)), (1, .ref (t 0))] := hl
  have hw : zHw x A s.heap (zPW x b tb (zTp tb n (zNx tb n y) v) ++ zTW x t U lk) s.heap [] := hw
  refine lv_aload_n hx hb dX4_readStreet_0 rfl (lv_at hl 0 rfl) ?_
  rcases hq1 : zNu tb n (zNx tb n y) 5 with _ | r
  · refine lv_iconst (v := 5) hx hb dX4_readStreet_1 (by decide) ?_
    refine zcVmi (r := (-1)) (C1 := []) (C2 := (zTW x t U lk)) hx hb hml hown hts hl.1 hK hE hA lkX4_54 (c_X2_passNumber_n x b tb n (zNx tb n y) v hn (zNx_le hy) 5 (by decide) hq1) ⟨Nat.le_of_ble_eq_true rfl, Nat.le_of_ble_eq_true rfl⟩ ⟨Nat.zero_le _, Nat.zero_le _⟩ hw 0 1 rfl rfl rfl rfl (Nat.le_of_ble_eq_true rfl) dX4_readStreet_2 (fun H locs hw => ?_)
    have hw : zHw x A s.heap (zPW x b tb (zTp tb n (zNx tb n y) v) ++ zTW x t U lk) H locs := hw
    refine lv_istore_n (lv' := [(2, .int (-1)), (0, .ref (b 1)), (1, .ref (t 0))]) hx hb dX4_readStreet_5 rfl hl (by decide) rfl (fun ls hl => ?_)
    refine lv_iload_n hx hb dX4_readStreet_6 rfl (lv_at hl 0 rfl) ?_
    refine zcNwi (r := zb (0 ≤ (-1) ∧ (-1) < 6)) hx hb hml hown hts hl.1 hK hE hA lkX4_94 hE.1.2 (c_X5_isStreet x (zPW x b tb (zTp tb n (zNx tb n y) v) ++ zTW x t U lk) (-1)) ⟨Nat.le_of_ble_eq_true rfl, Nat.le_of_ble_eq_true rfl⟩ ⟨Nat.zero_le _, Nat.zero_le _⟩ hw rfl rfl (Nat.le_of_ble_eq_true rfl) dX4_readStreet_7 (fun H locs hw => ?_)
    have hw : zHw x A s.heap (zPW x b tb (zTp tb n (zNx tb n y) v) ++ zTW x t U lk) H locs := hw
    refine lv_if_ne (tgt := 15) hx hb dX4_readStreet_10 (by decide) (fun c10 => absurd c10 (fun h => h (zb_f (by decide)))) (fun c10 => ?_)
    refine lv_iconst (v := 0) hx hb dX4_readStreet_13 (by decide) ?_
    exact zFG.zret hx hb hr hlocks hQ hw (zPT_fs _ _ _ _ _ _) dX4_readStreet_14 (by decide) (zPC.i (zSq_0 hq1))
  · have hrm := zNu_le hq1
    refine lv_iconst (v := 5) hx hb dX4_readStreet_1 (by decide) ?_
    refine zcVmi (r := nI r) (C1 := []) (C2 := (zTW x t U lk)) hx hb hml hown hts hl.1 hK hE hA lkX4_54 (c_X2_passNumber_s x b tb n (zNx tb n y) v hn (zNx_le hy) 5 r (by decide) hq1) ⟨Nat.le_of_ble_eq_true rfl, Nat.le_of_ble_eq_true rfl⟩ ⟨Nat.zero_le _, Nat.zero_le _⟩ hw 0 1 rfl rfl rfl rfl (Nat.le_of_ble_eq_true rfl) dX4_readStreet_2 (fun H locs hw => ?_)
    have hw : zHw x A s.heap (zPW x b tb (zTp tb n (zNx tb n (zNx tb n y)) (nI r)) ++ zTW x t U lk) H locs := hw
    refine lv_istore_n (lv' := [(2, .int (nI r)), (0, .ref (b 1)), (1, .ref (t 0))]) hx hb dX4_readStreet_5 rfl hl (by decide) rfl (fun ls hl => ?_)
    refine lv_iload_n hx hb dX4_readStreet_6 rfl (lv_at hl 0 rfl) ?_
    refine zcNwi (r := zb (0 ≤ nI r ∧ nI r < 6)) hx hb hml hown hts hl.1 hK hE hA lkX4_94 hE.1.2 (c_X5_isStreet x (zPW x b tb (zTp tb n (zNx tb n (zNx tb n y)) (nI r)) ++ zTW x t U lk) (nI r)) ⟨Nat.le_of_ble_eq_true rfl, Nat.le_of_ble_eq_true rfl⟩ ⟨Nat.zero_le _, Nat.zero_le _⟩ hw rfl rfl (Nat.le_of_ble_eq_true rfl) dX4_readStreet_7 (fun H locs hw => ?_)
    have hw : zHw x A s.heap (zPW x b tb (zTp tb n (zNx tb n (zNx tb n y)) (nI r)) ++ zTW x t U lk) H locs := hw
    refine lv_if_ne (tgt := 15) hx hb dX4_readStreet_10 (by decide) (fun c10 => ?_) (fun c10 => absurd c10 (zb_n0.mpr ⟨nI_pos' (by omega), nI_lt (b := 6) (by omega) (by decide)⟩))
    refine lv_aload_n hx hb dX4_readStreet_15 rfl (lv_at hl 1 rfl) ?_
    rcases Decidable.em (zIs tb n (zNx tb n (zNx tb n y)) (zNm 12)) with s2 | s2
    · refine zldS hx hb hE hw hown 12 (by decide) rfl rfl dX4_readStreet_16 ?_
      refine zcVmi (r := 1) (C1 := []) (C2 := (zTW x t U lk)) hx hb hml hown hts hl.1 hK hE hA lkX4_46 (c_X2_pass_t x b tb n (zNx tb n (zNx tb n y)) (nI r) hn (zNx_le (zNx_le hy)) 12 (by decide) s2) ⟨Nat.le_of_ble_eq_true rfl, Nat.le_of_ble_eq_true rfl⟩ ⟨Nat.zero_le _, Nat.zero_le _⟩ hw 0 1 rfl rfl rfl rfl (Nat.le_of_ble_eq_true rfl) dX4_readStreet_18 (fun H locs hw => ?_)
      have hw : zHw x A s.heap (zPW x b tb (zTp tb n (zNx tb n (zNx tb n (zNx tb n y))) (nI r)) ++ zTW x t U lk) H locs := hw
      refine lv_if_eq (tgt := 33) hx hb dX4_readStreet_21 (by decide) (fun c21 => absurd c21 (by decide)) (fun c21 => ?_)
      rcases hq2 : zNu tb n (zNx tb n (zNx tb n (zNx tb n y))) 99 with _ | tr
      · refine lv_aload_n hx hb dX4_readStreet_24 rfl (lv_at hl 1 rfl) ?_
        refine lv_bipush (v := 99) hx hb dX4_readStreet_25 (by decide) ?_
        refine zcVmi (r := (-1)) (C1 := []) (C2 := (zTW x t U lk)) hx hb hml hown hts hl.1 hK hE hA lkX4_54 (c_X2_passNumber_n x b tb n (zNx tb n (zNx tb n (zNx tb n y))) (nI r) hn (zNx_le (zNx_le (zNx_le hy))) 99 (by decide) hq2) ⟨Nat.le_of_ble_eq_true rfl, Nat.le_of_ble_eq_true rfl⟩ ⟨Nat.zero_le _, Nat.zero_le _⟩ hw 0 1 rfl rfl rfl rfl (Nat.le_of_ble_eq_true rfl) dX4_readStreet_27 (fun H locs hw => ?_)
        have hw : zHw x A s.heap (zPW x b tb (zTp tb n (zNx tb n (zNx tb n (zNx tb n y))) (nI r)) ++ zTW x t U lk) H locs := hw
        refine lv_goto (tgt := 39) hx hb dX4_readStreet_30 (by decide) ?_
        refine lv_istore_n (lv' := [(3, .int (-1)), (2, .int (nI r)), (0, .ref (b 1)), (1, .ref (t 0))]) hx hb dX4_readStreet_39 rfl hl (by decide) rfl (fun ls hl => ?_)
        refine lv_iload_n hx hb dX4_readStreet_40 rfl (lv_at hl 0 rfl) ?_
        refine lv_iconst (v := (-1)) hx hb dX4_readStreet_41 (by decide) ?_
        refine lv_icmp_ne (tgt := 47) hx hb dX4_readStreet_42 (by decide) (fun c42 => absurd c42 (by decide)) (fun c42 => ?_)
        refine lv_iconst (v := 0) hx hb dX4_readStreet_45 (by decide) ?_
        exact zFG.zret hx hb hr hlocks hQ hw (zPT_fs _ _ _ _ _ _) dX4_readStreet_46 (by decide) (zPC.i (zSq_1 hq1 (zPa_f s2 hq2)))
      · have htrm := zNu_le hq2
        refine lv_aload_n hx hb dX4_readStreet_24 rfl (lv_at hl 1 rfl) ?_
        refine lv_bipush (v := 99) hx hb dX4_readStreet_25 (by decide) ?_
        refine zcVmi (r := nI tr) (C1 := []) (C2 := (zTW x t U lk)) hx hb hml hown hts hl.1 hK hE hA lkX4_54 (c_X2_passNumber_s x b tb n (zNx tb n (zNx tb n (zNx tb n y))) (nI r) hn (zNx_le (zNx_le (zNx_le hy))) 99 tr (by decide) hq2) ⟨Nat.le_of_ble_eq_true rfl, Nat.le_of_ble_eq_true rfl⟩ ⟨Nat.zero_le _, Nat.zero_le _⟩ hw 0 1 rfl rfl rfl rfl (Nat.le_of_ble_eq_true rfl) dX4_readStreet_27 (fun H locs hw => ?_)
        have hw : zHw x A s.heap (zPW x b tb (zTp tb n (zNx tb n (zNx tb n (zNx tb n (zNx tb n y)))) (nI tr)) ++ zTW x t U lk) H locs := hw
        refine lv_goto (tgt := 39) hx hb dX4_readStreet_30 (by decide) ?_
        refine lv_istore_n (lv' := [(3, .int (nI tr)), (2, .int (nI r)), (0, .ref (b 1)), (1, .ref (t 0))]) hx hb dX4_readStreet_39 rfl hl (by decide) rfl (fun ls hl => ?_)
        refine lv_iload_n hx hb dX4_readStreet_40 rfl (lv_at hl 0 rfl) ?_
        refine lv_iconst (v := (-1)) hx hb dX4_readStreet_41 (by decide) ?_
        refine lv_icmp_ne (tgt := 47) hx hb dX4_readStreet_42 (by decide) (fun c42 => ?_) (fun c42 => absurd c42 (fun h => absurd h (zne1 (by omega))))
        refine lv_aload_n hx hb dX4_readStreet_47 rfl (lv_at hl 3 rfl) ?_
        refine gfX4_100 hx hb hown hts hK hw 2 rfl rfl dX4_readStreet_48 ?_
        refine lv_iload_n hx hb dX4_readStreet_51 rfl (lv_at hl 1 rfl) ?_
        refine lv_iload_n hx hb dX4_readStreet_52 rfl (lv_at hl 0 rfl) ?_
        refine zias hx hb hK hw 3 0 r rfl rfl rfl (by omega) (by decide) dX4_readStreet_53 (fun H locs hw => ?_)
        have hw : zHw x A s.heap (zPW x b tb (zTp tb n (zNx tb n (zNx tb n (zNx tb n (zNx tb n y)))) (nI tr)) ++ zTW x t (zU U 1 r (nI tr)) lk) H locs := hw
        refine lv_aload_n hx hb dX4_readStreet_54 rfl (lv_at hl 3 rfl) ?_
        refine gfX4_102 hx hb hown hts hK hw 2 rfl rfl dX4_readStreet_55 ?_
        refine lv_iload_n hx hb dX4_readStreet_58 rfl (lv_at hl 1 rfl) ?_
        refine lv_aload_n hx hb dX4_readStreet_59 rfl (lv_at hl 2 rfl) ?_
        rcases Decidable.em (zIs tb n (zNx tb n (zNx tb n (zNx tb n (zNx tb n y)))) (zNm 13)) with s3 | s3
        · refine zldS hx hb hE hw hown 13 (by decide) rfl rfl dX4_readStreet_60 ?_
          refine zcVmi (r := 1) (C1 := []) (C2 := (zTW x t (zU U 1 r (nI tr)) lk)) hx hb hml hown hts hl.1 hK hE hA lkX4_46 (c_X2_pass_t x b tb n (zNx tb n (zNx tb n (zNx tb n (zNx tb n y)))) (nI tr) hn (zNx_le (zNx_le (zNx_le (zNx_le hy)))) 13 (by decide) s3) ⟨Nat.le_of_ble_eq_true rfl, Nat.le_of_ble_eq_true rfl⟩ ⟨Nat.zero_le _, Nat.zero_le _⟩ hw 0 1 rfl rfl rfl rfl (Nat.le_of_ble_eq_true rfl) dX4_readStreet_62 (fun H locs hw => ?_)
          have hw : zHw x A s.heap (zPW x b tb (zTp tb n (zNx tb n (zNx tb n (zNx tb n (zNx tb n (zNx tb n y))))) (nI tr)) ++ zTW x t (zU U 1 r (nI tr)) lk) H locs := hw
          refine lv_if_eq (tgt := 72) hx hb dX4_readStreet_65 (by decide) (fun c65 => absurd c65 (by decide)) (fun c65 => ?_)
          refine lv_iconst (v := 1) hx hb dX4_readStreet_68 (by decide) ?_
          refine lv_goto (tgt := 73) hx hb dX4_readStreet_69 (by decide) ?_
          refine zias hx hb hK hw 4 0 r rfl rfl rfl (by omega) (by decide) dX4_readStreet_73 (fun H locs hw => ?_)
          have hw : zHw x A s.heap (zPW x b tb (zTp tb n (zNx tb n (zNx tb n (zNx tb n (zNx tb n (zNx tb n y))))) (nI tr)) ++ zTW x t (zU (zU U 1 r (nI tr)) 2 r 1) lk) H locs := hw
          refine lv_iconst (v := 1) hx hb dX4_readStreet_74 (by decide) ?_
          exact zFG.zret hx hb hr hlocks hQ hw (zPT_fs _ _ _ _ _ _) dX4_readStreet_75 (by decide) (zPC.o (zSq_2 hq1 (zPa_t s2 hq2) ((zWi_t s3).trans (by rw [zU_U]))))
        · refine zldS hx hb hE hw hown 13 (by decide) rfl rfl dX4_readStreet_60 ?_
          refine zcVmi (r := 0) (C1 := []) (C2 := (zTW x t (zU U 1 r (nI tr)) lk)) hx hb hml hown hts hl.1 hK hE hA lkX4_46 (c_X2_pass_f x b tb n (zNx tb n (zNx tb n (zNx tb n (zNx tb n y)))) (nI tr) hn (zNx_le (zNx_le (zNx_le (zNx_le hy)))) 13 (by decide) s3) ⟨Nat.le_of_ble_eq_true rfl, Nat.le_of_ble_eq_true rfl⟩ ⟨Nat.zero_le _, Nat.zero_le _⟩ hw 0 1 rfl rfl rfl rfl (Nat.le_of_ble_eq_true rfl) dX4_readStreet_62 (fun H locs hw => ?_)
          have hw : zHw x A s.heap (zPW x b tb (zTp tb n (zNx tb n (zNx tb n (zNx tb n (zNx tb n y)))) (nI tr)) ++ zTW x t (zU U 1 r (nI tr)) lk) H locs := hw
          refine lv_if_eq (tgt := 72) hx hb dX4_readStreet_65 (by decide) (fun c65 => ?_) (fun c65 => absurd (by decide) c65)
          refine lv_iconst (v := 0) hx hb dX4_readStreet_72 (by decide) ?_
          refine zias hx hb hK hw 4 0 r rfl rfl rfl (by omega) (by decide) dX4_readStreet_73 (fun H locs hw => ?_)
          have hw : zHw x A s.heap (zPW x b tb (zTp tb n (zNx tb n (zNx tb n (zNx tb n (zNx tb n y)))) (nI tr)) ++ zTW x t (zU (zU U 1 r (nI tr)) 2 r 0) lk) H locs := hw
          refine lv_iconst (v := 1) hx hb dX4_readStreet_74 (by decide) ?_
          exact zFG.zret hx hb hr hlocks hQ hw (zPT_fs _ _ _ _ _ _) dX4_readStreet_75 (by decide) (zPC.o (zSq_2 hq1 (zPa_t s2 hq2) (zWi_f s3)))
    · refine zldS hx hb hE hw hown 12 (by decide) rfl rfl dX4_readStreet_16 ?_
      refine zcVmi (r := 0) (C1 := []) (C2 := (zTW x t U lk)) hx hb hml hown hts hl.1 hK hE hA lkX4_46 (c_X2_pass_f x b tb n (zNx tb n (zNx tb n y)) (nI r) hn (zNx_le (zNx_le hy)) 12 (by decide) s2) ⟨Nat.le_of_ble_eq_true rfl, Nat.le_of_ble_eq_true rfl⟩ ⟨Nat.zero_le _, Nat.zero_le _⟩ hw 0 1 rfl rfl rfl rfl (Nat.le_of_ble_eq_true rfl) dX4_readStreet_18 (fun H locs hw => ?_)
      have hw : zHw x A s.heap (zPW x b tb (zTp tb n (zNx tb n (zNx tb n y)) (nI r)) ++ zTW x t U lk) H locs := hw
      refine lv_if_eq (tgt := 33) hx hb dX4_readStreet_21 (by decide) (fun c21 => ?_) (fun c21 => absurd (by decide) c21)
      refine lv_aload_n hx hb dX4_readStreet_33 rfl (lv_at hl 2 rfl) ?_
      refine gfX4_100 hx hb hown hts hK hw 2 rfl rfl dX4_readStreet_34 ?_
      refine lv_iload_n hx hb dX4_readStreet_37 rfl (lv_at hl 0 rfl) ?_
      refine zial hx hb hK hw 3 0 r rfl rfl rfl (by omega) (by decide) dX4_readStreet_38 ?_
      refine lv_istore_n (lv' := [(3, .int ((U 1) r)), (2, .int (nI r)), (0, .ref (b 1)), (1, .ref (t 0))]) hx hb dX4_readStreet_39 rfl hl (by decide) rfl (fun ls hl => ?_)
      refine lv_iload_n hx hb dX4_readStreet_40 rfl (lv_at hl 0 rfl) ?_
      refine lv_iconst (v := (-1)) hx hb dX4_readStreet_41 (by decide) ?_
      refine lv_icmp_ne (tgt := 47) hx hb dX4_readStreet_42 (by decide) (fun c42 => ?_) (fun c42 => absurd c42 (fun h => absurd h (by obtain ⟨m1, hm1, e1⟩ := hI.col 1 r (by decide) (by decide) (show r < 6 by omega); rw [e1]; exact zne1 (by have : m1 ≤ 99 := hm1; omega))))
      refine lv_aload_n hx hb dX4_readStreet_47 rfl (lv_at hl 3 rfl) ?_
      refine gfX4_100 hx hb hown hts hK hw 2 rfl rfl dX4_readStreet_48 ?_
      refine lv_iload_n hx hb dX4_readStreet_51 rfl (lv_at hl 1 rfl) ?_
      refine lv_iload_n hx hb dX4_readStreet_52 rfl (lv_at hl 0 rfl) ?_
      refine zias hx hb hK hw 3 0 r rfl rfl rfl (by omega) (by decide) dX4_readStreet_53 (fun H locs hw => ?_)
      have hw : zHw x A s.heap (zPW x b tb (zTp tb n (zNx tb n (zNx tb n y)) (nI r)) ++ zTW x t (zU U 1 r ((U 1) r)) lk) H locs := hw
      have hw : zHw x A s.heap (zPW x b tb (zTp tb n (zNx tb n (zNx tb n y)) (nI r)) ++ zTW x t U lk) H locs := hw.re (by rw [zU_self])
      refine lv_aload_n hx hb dX4_readStreet_54 rfl (lv_at hl 3 rfl) ?_
      refine gfX4_102 hx hb hown hts hK hw 2 rfl rfl dX4_readStreet_55 ?_
      refine lv_iload_n hx hb dX4_readStreet_58 rfl (lv_at hl 1 rfl) ?_
      refine lv_aload_n hx hb dX4_readStreet_59 rfl (lv_at hl 2 rfl) ?_
      rcases Decidable.em (zIs tb n (zNx tb n (zNx tb n y)) (zNm 13)) with s3 | s3
      · refine zldS hx hb hE hw hown 13 (by decide) rfl rfl dX4_readStreet_60 ?_
        refine zcVmi (r := 1) (C1 := []) (C2 := (zTW x t U lk)) hx hb hml hown hts hl.1 hK hE hA lkX4_46 (c_X2_pass_t x b tb n (zNx tb n (zNx tb n y)) (nI r) hn (zNx_le (zNx_le hy)) 13 (by decide) s3) ⟨Nat.le_of_ble_eq_true rfl, Nat.le_of_ble_eq_true rfl⟩ ⟨Nat.zero_le _, Nat.zero_le _⟩ hw 0 1 rfl rfl rfl rfl (Nat.le_of_ble_eq_true rfl) dX4_readStreet_62 (fun H locs hw => ?_)
        have hw : zHw x A s.heap (zPW x b tb (zTp tb n (zNx tb n (zNx tb n (zNx tb n y))) (nI r)) ++ zTW x t U lk) H locs := hw
        refine lv_if_eq (tgt := 72) hx hb dX4_readStreet_65 (by decide) (fun c65 => absurd c65 (by decide)) (fun c65 => ?_)
        refine lv_iconst (v := 1) hx hb dX4_readStreet_68 (by decide) ?_
        refine lv_goto (tgt := 73) hx hb dX4_readStreet_69 (by decide) ?_
        refine zias hx hb hK hw 4 0 r rfl rfl rfl (by omega) (by decide) dX4_readStreet_73 (fun H locs hw => ?_)
        have hw : zHw x A s.heap (zPW x b tb (zTp tb n (zNx tb n (zNx tb n (zNx tb n y))) (nI r)) ++ zTW x t (zU U 2 r 1) lk) H locs := hw
        refine lv_iconst (v := 1) hx hb dX4_readStreet_74 (by decide) ?_
        exact zFG.zret hx hb hr hlocks hQ hw (zPT_fs _ _ _ _ _ _) dX4_readStreet_75 (by decide) (zPC.o (zSq_2 hq1 (zPa_n s2) ((zWi_t s3).trans (by rw [zU_U]))))
      · refine zldS hx hb hE hw hown 13 (by decide) rfl rfl dX4_readStreet_60 ?_
        refine zcVmi (r := 0) (C1 := []) (C2 := (zTW x t U lk)) hx hb hml hown hts hl.1 hK hE hA lkX4_46 (c_X2_pass_f x b tb n (zNx tb n (zNx tb n y)) (nI r) hn (zNx_le (zNx_le hy)) 13 (by decide) s3) ⟨Nat.le_of_ble_eq_true rfl, Nat.le_of_ble_eq_true rfl⟩ ⟨Nat.zero_le _, Nat.zero_le _⟩ hw 0 1 rfl rfl rfl rfl (Nat.le_of_ble_eq_true rfl) dX4_readStreet_62 (fun H locs hw => ?_)
        have hw : zHw x A s.heap (zPW x b tb (zTp tb n (zNx tb n (zNx tb n y)) (nI r)) ++ zTW x t U lk) H locs := hw
        refine lv_if_eq (tgt := 72) hx hb dX4_readStreet_65 (by decide) (fun c65 => ?_) (fun c65 => absurd (by decide) c65)
        refine lv_iconst (v := 0) hx hb dX4_readStreet_72 (by decide) ?_
        refine zias hx hb hK hw 4 0 r rfl rfl rfl (by omega) (by decide) dX4_readStreet_73 (fun H locs hw => ?_)
        have hw : zHw x A s.heap (zPW x b tb (zTp tb n (zNx tb n (zNx tb n y)) (nI r)) ++ zTW x t (zU U 2 r 0) lk) H locs := hw
        refine lv_iconst (v := 1) hx hb dX4_readStreet_74 (by decide) ?_
        exact zFG.zret hx hb hr hlocks hQ hw (zPT_fs _ _ _ _ _ _) dX4_readStreet_75 (by decide) (zPC.o (zSq_2 hq1 (zPa_n s2) (zWi_f s3)))

set_option maxHeartbeats 4000000 in
set_option maxRecDepth 100000 in
theorem c_X4_readItem (x : zX) (b t : Nat → Nat) (tb : Nat → Int32) (n y : Nat) (v lk : Int32) (U : zT) (hn : n ≤ 120) (hy : y ≤ n) (hI : zInv U) : zFG x mX4_readItem 7 [.ref (b 1), .ref (t 0)] (zPW x b tb (zTp tb n y v) ++ zTW x t U lk) (fun v' u' => zPC x b t lk tb n (zIt tb n y U) v' u') := by
  refine zFG.start RX4 cX4_readItem 3 (some .boolean) rfl rfl (by decide +kernel) (Nat.le_of_ble_eq_true rfl) ?_
  intro p e s m ar below meth c ls A Q hx hb hr hml hown hts hlocks hK hE hA hQ hl hw
  have hl : lv_has ls 3 [(0, .ref (b 1)), (1, .ref (t 0))] := hl
  have hw : zHw x A s.heap (zPW x b tb (zTp tb n y v) ++ zTW x t U lk) s.heap [] := hw
  refine lv_iconst (v := 0) hx hb dX4_readItem_0 (by decide) ?_
  rcases zKic tb n y with ⟨m0, hki⟩ | ⟨m0, m1, hki⟩ | ⟨m0, m1, m2, hki⟩ | ⟨m0, m1, m2, m3, hki⟩ | ⟨m0, m1, m2, m3, m4, hki⟩ | ⟨m0, m1, m2, m3, m4, m5, hki⟩ | ⟨m0, m1, m2, m3, m4, m5, hki, hs⟩ | ⟨m0, m1, m2, m3, m4, m5, hki, hs, hb1⟩ | ⟨m0, m1, m2, m3, m4, m5, hki, hs, hb1, hm1⟩ | ⟨m0, m1, m2, m3, m4, m5, hki, hs, hb1, hm1⟩
  · refine lv_istore_n (lv' := [(2, .int 0), (0, .ref (b 1)), (1, .ref (t 0))]) hx hb dX4_readItem_1 rfl hl (by decide) rfl (fun ls hl => ?_)
    refine lv_iload_n hx hb dX4_readItem_2 rfl (lv_at hl 0 rfl) ?_
    refine lv_bipush (v := 6) hx hb dX4_readItem_3 (by decide) ?_
    refine lv_icmp_ge (tgt := 32) hx hb dX4_readItem_5 (by decide) (fun c5 => absurd c5 (by decide)) (fun c5 => ?_)
    refine lv_aload_n hx hb dX4_readItem_8 rfl (lv_at hl 1 rfl) ?_
    refine lv_iload_n hx hb dX4_readItem_9 rfl (lv_at hl 0 rfl) ?_
    refine zcSwa hx hb hml hown hts hl.1 hK hE hA lkX4_30 (c_X0_nameOf_0 x (zPW x b tb (zTp tb n y v) ++ zTW x t U lk)) ⟨Nat.le_of_ble_eq_true rfl, Nat.le_of_ble_eq_true rfl⟩ ⟨Nat.zero_le _, Nat.zero_le _⟩ hw rfl rfl (Nat.le_of_ble_eq_true rfl) dX4_readItem_10 (fun H locs hw => ?_)
    have hw : zHw x A s.heap (zPW x b tb (zTp tb n y v) ++ zTW x t U lk) H locs := hw
    refine zcVmi (r := zb (zIs tb n y (zNm 0))) (C1 := []) (C2 := (zTW x t U lk)) hx hb hml hown hts hl.1 hK hE hA lkX4_36 (c_X2_isAt x b tb n y v hn hy 0 (by decide)) ⟨Nat.le_of_ble_eq_true rfl, Nat.le_of_ble_eq_true rfl⟩ ⟨Nat.zero_le _, Nat.zero_le _⟩ hw 0 1 rfl rfl rfl rfl (Nat.le_of_ble_eq_true rfl) dX4_readItem_13 (fun H locs hw => ?_)
    have hw : zHw x A s.heap (zPW x b tb (zTp tb n y v) ++ zTW x t U lk) H locs := hw
    refine lv_if_eq (tgt := 26) hx hb dX4_readItem_16 (by decide) (fun c16 => absurd c16 (zb_n0.mpr m0)) (fun c16 => ?_)
    rcases hzz : zHo tb n y U 0 with z1 | ⟨y1, S1⟩
    · refine lv_aload_n hx hb dX4_readItem_19 rfl (lv_at hl 1 rfl) ?_
      refine lv_aload_n hx hb dX4_readItem_20 rfl (lv_at hl 2 rfl) ?_
      refine lv_iload_n hx hb dX4_readItem_21 rfl (lv_at hl 0 rfl) ?_
      refine zcSw hx hb hml hown hts hl.1 hK hE hA lkX4_40 (c_X4_readHole x b t tb n y v lk U hn hy 0 hI) ⟨Nat.le_of_ble_eq_true rfl, Nat.le_of_ble_eq_true rfl⟩ ⟨Nat.zero_le _, Nat.zero_le _⟩ hw rfl rfl (Nat.le_of_ble_eq_true rfl) dX4_readItem_22 (fun vv uu H locs hp hw => ?_)
      obtain ⟨v3, T3, hp2⟩ := hp
      rw [hzz] at hp2
      obtain ⟨rfl, rfl⟩ := hp2
      refine W.eq (g2 := F0 m 25 ls [.int 0]) rfl ?_
      have hw : zHw x A s.heap (zPW x b tb (zTp tb n z1 v3) ++ zTW x t T3 lk) H locs := hw
      exact zFG.zret hx hb hr hlocks hQ hw (zPT_fs _ _ _ _ _ _) dX4_readItem_25 (by decide) (zPC.i (show zIt tb n y U = .inl z1 from (if_pos (by rw [hki]; decide)).trans (by rw [hki]; exact hzz)))
    · refine lv_aload_n hx hb dX4_readItem_19 rfl (lv_at hl 1 rfl) ?_
      refine lv_aload_n hx hb dX4_readItem_20 rfl (lv_at hl 2 rfl) ?_
      refine lv_iload_n hx hb dX4_readItem_21 rfl (lv_at hl 0 rfl) ?_
      refine zcSw hx hb hml hown hts hl.1 hK hE hA lkX4_40 (c_X4_readHole x b t tb n y v lk U hn hy 0 hI) ⟨Nat.le_of_ble_eq_true rfl, Nat.le_of_ble_eq_true rfl⟩ ⟨Nat.zero_le _, Nat.zero_le _⟩ hw rfl rfl (Nat.le_of_ble_eq_true rfl) dX4_readItem_22 (fun vv uu H locs hp hw => ?_)
      obtain ⟨v3, T3, hp2⟩ := hp
      rw [hzz] at hp2
      obtain ⟨rfl, rfl⟩ := hp2
      refine W.eq (g2 := F0 m 25 ls [.int 1]) rfl ?_
      have hw : zHw x A s.heap (zPW x b tb (zTp tb n y1 v3) ++ zTW x t S1 lk) H locs := hw
      exact zFG.zret hx hb hr hlocks hQ hw (zPT_fs _ _ _ _ _ _) dX4_readItem_25 (by decide) (zPC.o (show zIt tb n y U = .inr (y1, S1) from (if_pos (by rw [hki]; decide)).trans (by rw [hki]; exact hzz)))
  · refine lv_istore_n (lv' := [(2, .int 0), (0, .ref (b 1)), (1, .ref (t 0))]) hx hb dX4_readItem_1 rfl hl (by decide) rfl (fun ls hl => ?_)
    refine lv_iload_n hx hb dX4_readItem_2 rfl (lv_at hl 0 rfl) ?_
    refine lv_bipush (v := 6) hx hb dX4_readItem_3 (by decide) ?_
    refine lv_icmp_ge (tgt := 32) hx hb dX4_readItem_5 (by decide) (fun c5 => absurd c5 (by decide)) (fun c5 => ?_)
    refine lv_aload_n hx hb dX4_readItem_8 rfl (lv_at hl 1 rfl) ?_
    refine lv_iload_n hx hb dX4_readItem_9 rfl (lv_at hl 0 rfl) ?_
    refine zcSwa hx hb hml hown hts hl.1 hK hE hA lkX4_30 (c_X0_nameOf_0 x (zPW x b tb (zTp tb n y v) ++ zTW x t U lk)) ⟨Nat.le_of_ble_eq_true rfl, Nat.le_of_ble_eq_true rfl⟩ ⟨Nat.zero_le _, Nat.zero_le _⟩ hw rfl rfl (Nat.le_of_ble_eq_true rfl) dX4_readItem_10 (fun H locs hw => ?_)
    have hw : zHw x A s.heap (zPW x b tb (zTp tb n y v) ++ zTW x t U lk) H locs := hw
    refine zcVmi (r := zb (zIs tb n y (zNm 0))) (C1 := []) (C2 := (zTW x t U lk)) hx hb hml hown hts hl.1 hK hE hA lkX4_36 (c_X2_isAt x b tb n y v hn hy 0 (by decide)) ⟨Nat.le_of_ble_eq_true rfl, Nat.le_of_ble_eq_true rfl⟩ ⟨Nat.zero_le _, Nat.zero_le _⟩ hw 0 1 rfl rfl rfl rfl (Nat.le_of_ble_eq_true rfl) dX4_readItem_13 (fun H locs hw => ?_)
    have hw : zHw x A s.heap (zPW x b tb (zTp tb n y v) ++ zTW x t U lk) H locs := hw
    refine lv_if_eq (tgt := 26) hx hb dX4_readItem_16 (by decide) (fun c16 => ?_) (fun c16 => absurd (zb_0.mpr m0) c16)
    refine lv_iinc (v := 1) (lv' := [(2, .int 1), (0, .ref (b 1)), (1, .ref (t 0))]) hx hb dX4_readItem_26 hl (k := 0) rfl (by decide) (by decide) rfl (fun ls hl => ?_)
    refine lv_goto (tgt := 2) hx hb dX4_readItem_29 (by decide) ?_
    refine lv_iload_n hx hb dX4_readItem_2 rfl (lv_at hl 0 rfl) ?_
    refine lv_bipush (v := 6) hx hb dX4_readItem_3 (by decide) ?_
    refine lv_icmp_ge (tgt := 32) hx hb dX4_readItem_5 (by decide) (fun c5 => absurd c5 (by decide)) (fun c5 => ?_)
    refine lv_aload_n hx hb dX4_readItem_8 rfl (lv_at hl 1 rfl) ?_
    refine lv_iload_n hx hb dX4_readItem_9 rfl (lv_at hl 0 rfl) ?_
    refine zcSwa hx hb hml hown hts hl.1 hK hE hA lkX4_30 (c_X0_nameOf_1 x (zPW x b tb (zTp tb n y v) ++ zTW x t U lk)) ⟨Nat.le_of_ble_eq_true rfl, Nat.le_of_ble_eq_true rfl⟩ ⟨Nat.zero_le _, Nat.zero_le _⟩ hw rfl rfl (Nat.le_of_ble_eq_true rfl) dX4_readItem_10 (fun H locs hw => ?_)
    have hw : zHw x A s.heap (zPW x b tb (zTp tb n y v) ++ zTW x t U lk) H locs := hw
    refine zcVmi (r := zb (zIs tb n y (zNm 1))) (C1 := []) (C2 := (zTW x t U lk)) hx hb hml hown hts hl.1 hK hE hA lkX4_36 (c_X2_isAt x b tb n y v hn hy 1 (by decide)) ⟨Nat.le_of_ble_eq_true rfl, Nat.le_of_ble_eq_true rfl⟩ ⟨Nat.zero_le _, Nat.zero_le _⟩ hw 0 1 rfl rfl rfl rfl (Nat.le_of_ble_eq_true rfl) dX4_readItem_13 (fun H locs hw => ?_)
    have hw : zHw x A s.heap (zPW x b tb (zTp tb n y v) ++ zTW x t U lk) H locs := hw
    refine lv_if_eq (tgt := 26) hx hb dX4_readItem_16 (by decide) (fun c16 => absurd c16 (zb_n0.mpr m1)) (fun c16 => ?_)
    rcases hzz : zHo tb n y U 1 with z1 | ⟨y1, S1⟩
    · refine lv_aload_n hx hb dX4_readItem_19 rfl (lv_at hl 1 rfl) ?_
      refine lv_aload_n hx hb dX4_readItem_20 rfl (lv_at hl 2 rfl) ?_
      refine lv_iload_n hx hb dX4_readItem_21 rfl (lv_at hl 0 rfl) ?_
      refine zcSw hx hb hml hown hts hl.1 hK hE hA lkX4_40 (c_X4_readHole x b t tb n y v lk U hn hy 1 hI) ⟨Nat.le_of_ble_eq_true rfl, Nat.le_of_ble_eq_true rfl⟩ ⟨Nat.zero_le _, Nat.zero_le _⟩ hw rfl rfl (Nat.le_of_ble_eq_true rfl) dX4_readItem_22 (fun vv uu H locs hp hw => ?_)
      obtain ⟨v3, T3, hp2⟩ := hp
      rw [hzz] at hp2
      obtain ⟨rfl, rfl⟩ := hp2
      refine W.eq (g2 := F0 m 25 ls [.int 0]) rfl ?_
      have hw : zHw x A s.heap (zPW x b tb (zTp tb n z1 v3) ++ zTW x t T3 lk) H locs := hw
      exact zFG.zret hx hb hr hlocks hQ hw (zPT_fs _ _ _ _ _ _) dX4_readItem_25 (by decide) (zPC.i (show zIt tb n y U = .inl z1 from (if_pos (by rw [hki]; decide)).trans (by rw [hki]; exact hzz)))
    · refine lv_aload_n hx hb dX4_readItem_19 rfl (lv_at hl 1 rfl) ?_
      refine lv_aload_n hx hb dX4_readItem_20 rfl (lv_at hl 2 rfl) ?_
      refine lv_iload_n hx hb dX4_readItem_21 rfl (lv_at hl 0 rfl) ?_
      refine zcSw hx hb hml hown hts hl.1 hK hE hA lkX4_40 (c_X4_readHole x b t tb n y v lk U hn hy 1 hI) ⟨Nat.le_of_ble_eq_true rfl, Nat.le_of_ble_eq_true rfl⟩ ⟨Nat.zero_le _, Nat.zero_le _⟩ hw rfl rfl (Nat.le_of_ble_eq_true rfl) dX4_readItem_22 (fun vv uu H locs hp hw => ?_)
      obtain ⟨v3, T3, hp2⟩ := hp
      rw [hzz] at hp2
      obtain ⟨rfl, rfl⟩ := hp2
      refine W.eq (g2 := F0 m 25 ls [.int 1]) rfl ?_
      have hw : zHw x A s.heap (zPW x b tb (zTp tb n y1 v3) ++ zTW x t S1 lk) H locs := hw
      exact zFG.zret hx hb hr hlocks hQ hw (zPT_fs _ _ _ _ _ _) dX4_readItem_25 (by decide) (zPC.o (show zIt tb n y U = .inr (y1, S1) from (if_pos (by rw [hki]; decide)).trans (by rw [hki]; exact hzz)))
  · refine lv_istore_n (lv' := [(2, .int 0), (0, .ref (b 1)), (1, .ref (t 0))]) hx hb dX4_readItem_1 rfl hl (by decide) rfl (fun ls hl => ?_)
    refine lv_iload_n hx hb dX4_readItem_2 rfl (lv_at hl 0 rfl) ?_
    refine lv_bipush (v := 6) hx hb dX4_readItem_3 (by decide) ?_
    refine lv_icmp_ge (tgt := 32) hx hb dX4_readItem_5 (by decide) (fun c5 => absurd c5 (by decide)) (fun c5 => ?_)
    refine lv_aload_n hx hb dX4_readItem_8 rfl (lv_at hl 1 rfl) ?_
    refine lv_iload_n hx hb dX4_readItem_9 rfl (lv_at hl 0 rfl) ?_
    refine zcSwa hx hb hml hown hts hl.1 hK hE hA lkX4_30 (c_X0_nameOf_0 x (zPW x b tb (zTp tb n y v) ++ zTW x t U lk)) ⟨Nat.le_of_ble_eq_true rfl, Nat.le_of_ble_eq_true rfl⟩ ⟨Nat.zero_le _, Nat.zero_le _⟩ hw rfl rfl (Nat.le_of_ble_eq_true rfl) dX4_readItem_10 (fun H locs hw => ?_)
    have hw : zHw x A s.heap (zPW x b tb (zTp tb n y v) ++ zTW x t U lk) H locs := hw
    refine zcVmi (r := zb (zIs tb n y (zNm 0))) (C1 := []) (C2 := (zTW x t U lk)) hx hb hml hown hts hl.1 hK hE hA lkX4_36 (c_X2_isAt x b tb n y v hn hy 0 (by decide)) ⟨Nat.le_of_ble_eq_true rfl, Nat.le_of_ble_eq_true rfl⟩ ⟨Nat.zero_le _, Nat.zero_le _⟩ hw 0 1 rfl rfl rfl rfl (Nat.le_of_ble_eq_true rfl) dX4_readItem_13 (fun H locs hw => ?_)
    have hw : zHw x A s.heap (zPW x b tb (zTp tb n y v) ++ zTW x t U lk) H locs := hw
    refine lv_if_eq (tgt := 26) hx hb dX4_readItem_16 (by decide) (fun c16 => ?_) (fun c16 => absurd (zb_0.mpr m0) c16)
    refine lv_iinc (v := 1) (lv' := [(2, .int 1), (0, .ref (b 1)), (1, .ref (t 0))]) hx hb dX4_readItem_26 hl (k := 0) rfl (by decide) (by decide) rfl (fun ls hl => ?_)
    refine lv_goto (tgt := 2) hx hb dX4_readItem_29 (by decide) ?_
    refine lv_iload_n hx hb dX4_readItem_2 rfl (lv_at hl 0 rfl) ?_
    refine lv_bipush (v := 6) hx hb dX4_readItem_3 (by decide) ?_
    refine lv_icmp_ge (tgt := 32) hx hb dX4_readItem_5 (by decide) (fun c5 => absurd c5 (by decide)) (fun c5 => ?_)
    refine lv_aload_n hx hb dX4_readItem_8 rfl (lv_at hl 1 rfl) ?_
    refine lv_iload_n hx hb dX4_readItem_9 rfl (lv_at hl 0 rfl) ?_
    refine zcSwa hx hb hml hown hts hl.1 hK hE hA lkX4_30 (c_X0_nameOf_1 x (zPW x b tb (zTp tb n y v) ++ zTW x t U lk)) ⟨Nat.le_of_ble_eq_true rfl, Nat.le_of_ble_eq_true rfl⟩ ⟨Nat.zero_le _, Nat.zero_le _⟩ hw rfl rfl (Nat.le_of_ble_eq_true rfl) dX4_readItem_10 (fun H locs hw => ?_)
    have hw : zHw x A s.heap (zPW x b tb (zTp tb n y v) ++ zTW x t U lk) H locs := hw
    refine zcVmi (r := zb (zIs tb n y (zNm 1))) (C1 := []) (C2 := (zTW x t U lk)) hx hb hml hown hts hl.1 hK hE hA lkX4_36 (c_X2_isAt x b tb n y v hn hy 1 (by decide)) ⟨Nat.le_of_ble_eq_true rfl, Nat.le_of_ble_eq_true rfl⟩ ⟨Nat.zero_le _, Nat.zero_le _⟩ hw 0 1 rfl rfl rfl rfl (Nat.le_of_ble_eq_true rfl) dX4_readItem_13 (fun H locs hw => ?_)
    have hw : zHw x A s.heap (zPW x b tb (zTp tb n y v) ++ zTW x t U lk) H locs := hw
    refine lv_if_eq (tgt := 26) hx hb dX4_readItem_16 (by decide) (fun c16 => ?_) (fun c16 => absurd (zb_0.mpr m1) c16)
    refine lv_iinc (v := 2) (lv' := [(2, .int 2), (0, .ref (b 1)), (1, .ref (t 0))]) hx hb dX4_readItem_26 hl (k := 0) rfl (by decide) (by decide) rfl (fun ls hl => ?_)
    refine lv_goto (tgt := 2) hx hb dX4_readItem_29 (by decide) ?_
    refine lv_iload_n hx hb dX4_readItem_2 rfl (lv_at hl 0 rfl) ?_
    refine lv_bipush (v := 6) hx hb dX4_readItem_3 (by decide) ?_
    refine lv_icmp_ge (tgt := 32) hx hb dX4_readItem_5 (by decide) (fun c5 => absurd c5 (by decide)) (fun c5 => ?_)
    refine lv_aload_n hx hb dX4_readItem_8 rfl (lv_at hl 1 rfl) ?_
    refine lv_iload_n hx hb dX4_readItem_9 rfl (lv_at hl 0 rfl) ?_
    refine zcSwa hx hb hml hown hts hl.1 hK hE hA lkX4_30 (c_X0_nameOf_2 x (zPW x b tb (zTp tb n y v) ++ zTW x t U lk)) ⟨Nat.le_of_ble_eq_true rfl, Nat.le_of_ble_eq_true rfl⟩ ⟨Nat.zero_le _, Nat.zero_le _⟩ hw rfl rfl (Nat.le_of_ble_eq_true rfl) dX4_readItem_10 (fun H locs hw => ?_)
    have hw : zHw x A s.heap (zPW x b tb (zTp tb n y v) ++ zTW x t U lk) H locs := hw
    refine zcVmi (r := zb (zIs tb n y (zNm 2))) (C1 := []) (C2 := (zTW x t U lk)) hx hb hml hown hts hl.1 hK hE hA lkX4_36 (c_X2_isAt x b tb n y v hn hy 2 (by decide)) ⟨Nat.le_of_ble_eq_true rfl, Nat.le_of_ble_eq_true rfl⟩ ⟨Nat.zero_le _, Nat.zero_le _⟩ hw 0 1 rfl rfl rfl rfl (Nat.le_of_ble_eq_true rfl) dX4_readItem_13 (fun H locs hw => ?_)
    have hw : zHw x A s.heap (zPW x b tb (zTp tb n y v) ++ zTW x t U lk) H locs := hw
    refine lv_if_eq (tgt := 26) hx hb dX4_readItem_16 (by decide) (fun c16 => absurd c16 (zb_n0.mpr m2)) (fun c16 => ?_)
    rcases hzz : zHo tb n y U 2 with z1 | ⟨y1, S1⟩
    · refine lv_aload_n hx hb dX4_readItem_19 rfl (lv_at hl 1 rfl) ?_
      refine lv_aload_n hx hb dX4_readItem_20 rfl (lv_at hl 2 rfl) ?_
      refine lv_iload_n hx hb dX4_readItem_21 rfl (lv_at hl 0 rfl) ?_
      refine zcSw hx hb hml hown hts hl.1 hK hE hA lkX4_40 (c_X4_readHole x b t tb n y v lk U hn hy 2 hI) ⟨Nat.le_of_ble_eq_true rfl, Nat.le_of_ble_eq_true rfl⟩ ⟨Nat.zero_le _, Nat.zero_le _⟩ hw rfl rfl (Nat.le_of_ble_eq_true rfl) dX4_readItem_22 (fun vv uu H locs hp hw => ?_)
      obtain ⟨v3, T3, hp2⟩ := hp
      rw [hzz] at hp2
      obtain ⟨rfl, rfl⟩ := hp2
      refine W.eq (g2 := F0 m 25 ls [.int 0]) rfl ?_
      have hw : zHw x A s.heap (zPW x b tb (zTp tb n z1 v3) ++ zTW x t T3 lk) H locs := hw
      exact zFG.zret hx hb hr hlocks hQ hw (zPT_fs _ _ _ _ _ _) dX4_readItem_25 (by decide) (zPC.i (show zIt tb n y U = .inl z1 from (if_pos (by rw [hki]; decide)).trans (by rw [hki]; exact hzz)))
    · refine lv_aload_n hx hb dX4_readItem_19 rfl (lv_at hl 1 rfl) ?_
      refine lv_aload_n hx hb dX4_readItem_20 rfl (lv_at hl 2 rfl) ?_
      refine lv_iload_n hx hb dX4_readItem_21 rfl (lv_at hl 0 rfl) ?_
      refine zcSw hx hb hml hown hts hl.1 hK hE hA lkX4_40 (c_X4_readHole x b t tb n y v lk U hn hy 2 hI) ⟨Nat.le_of_ble_eq_true rfl, Nat.le_of_ble_eq_true rfl⟩ ⟨Nat.zero_le _, Nat.zero_le _⟩ hw rfl rfl (Nat.le_of_ble_eq_true rfl) dX4_readItem_22 (fun vv uu H locs hp hw => ?_)
      obtain ⟨v3, T3, hp2⟩ := hp
      rw [hzz] at hp2
      obtain ⟨rfl, rfl⟩ := hp2
      refine W.eq (g2 := F0 m 25 ls [.int 1]) rfl ?_
      have hw : zHw x A s.heap (zPW x b tb (zTp tb n y1 v3) ++ zTW x t S1 lk) H locs := hw
      exact zFG.zret hx hb hr hlocks hQ hw (zPT_fs _ _ _ _ _ _) dX4_readItem_25 (by decide) (zPC.o (show zIt tb n y U = .inr (y1, S1) from (if_pos (by rw [hki]; decide)).trans (by rw [hki]; exact hzz)))
  · refine lv_istore_n (lv' := [(2, .int 0), (0, .ref (b 1)), (1, .ref (t 0))]) hx hb dX4_readItem_1 rfl hl (by decide) rfl (fun ls hl => ?_)
    refine lv_iload_n hx hb dX4_readItem_2 rfl (lv_at hl 0 rfl) ?_
    refine lv_bipush (v := 6) hx hb dX4_readItem_3 (by decide) ?_
    refine lv_icmp_ge (tgt := 32) hx hb dX4_readItem_5 (by decide) (fun c5 => absurd c5 (by decide)) (fun c5 => ?_)
    refine lv_aload_n hx hb dX4_readItem_8 rfl (lv_at hl 1 rfl) ?_
    refine lv_iload_n hx hb dX4_readItem_9 rfl (lv_at hl 0 rfl) ?_
    refine zcSwa hx hb hml hown hts hl.1 hK hE hA lkX4_30 (c_X0_nameOf_0 x (zPW x b tb (zTp tb n y v) ++ zTW x t U lk)) ⟨Nat.le_of_ble_eq_true rfl, Nat.le_of_ble_eq_true rfl⟩ ⟨Nat.zero_le _, Nat.zero_le _⟩ hw rfl rfl (Nat.le_of_ble_eq_true rfl) dX4_readItem_10 (fun H locs hw => ?_)
    have hw : zHw x A s.heap (zPW x b tb (zTp tb n y v) ++ zTW x t U lk) H locs := hw
    refine zcVmi (r := zb (zIs tb n y (zNm 0))) (C1 := []) (C2 := (zTW x t U lk)) hx hb hml hown hts hl.1 hK hE hA lkX4_36 (c_X2_isAt x b tb n y v hn hy 0 (by decide)) ⟨Nat.le_of_ble_eq_true rfl, Nat.le_of_ble_eq_true rfl⟩ ⟨Nat.zero_le _, Nat.zero_le _⟩ hw 0 1 rfl rfl rfl rfl (Nat.le_of_ble_eq_true rfl) dX4_readItem_13 (fun H locs hw => ?_)
    have hw : zHw x A s.heap (zPW x b tb (zTp tb n y v) ++ zTW x t U lk) H locs := hw
    refine lv_if_eq (tgt := 26) hx hb dX4_readItem_16 (by decide) (fun c16 => ?_) (fun c16 => absurd (zb_0.mpr m0) c16)
    refine lv_iinc (v := 1) (lv' := [(2, .int 1), (0, .ref (b 1)), (1, .ref (t 0))]) hx hb dX4_readItem_26 hl (k := 0) rfl (by decide) (by decide) rfl (fun ls hl => ?_)
    refine lv_goto (tgt := 2) hx hb dX4_readItem_29 (by decide) ?_
    refine lv_iload_n hx hb dX4_readItem_2 rfl (lv_at hl 0 rfl) ?_
    refine lv_bipush (v := 6) hx hb dX4_readItem_3 (by decide) ?_
    refine lv_icmp_ge (tgt := 32) hx hb dX4_readItem_5 (by decide) (fun c5 => absurd c5 (by decide)) (fun c5 => ?_)
    refine lv_aload_n hx hb dX4_readItem_8 rfl (lv_at hl 1 rfl) ?_
    refine lv_iload_n hx hb dX4_readItem_9 rfl (lv_at hl 0 rfl) ?_
    refine zcSwa hx hb hml hown hts hl.1 hK hE hA lkX4_30 (c_X0_nameOf_1 x (zPW x b tb (zTp tb n y v) ++ zTW x t U lk)) ⟨Nat.le_of_ble_eq_true rfl, Nat.le_of_ble_eq_true rfl⟩ ⟨Nat.zero_le _, Nat.zero_le _⟩ hw rfl rfl (Nat.le_of_ble_eq_true rfl) dX4_readItem_10 (fun H locs hw => ?_)
    have hw : zHw x A s.heap (zPW x b tb (zTp tb n y v) ++ zTW x t U lk) H locs := hw
    refine zcVmi (r := zb (zIs tb n y (zNm 1))) (C1 := []) (C2 := (zTW x t U lk)) hx hb hml hown hts hl.1 hK hE hA lkX4_36 (c_X2_isAt x b tb n y v hn hy 1 (by decide)) ⟨Nat.le_of_ble_eq_true rfl, Nat.le_of_ble_eq_true rfl⟩ ⟨Nat.zero_le _, Nat.zero_le _⟩ hw 0 1 rfl rfl rfl rfl (Nat.le_of_ble_eq_true rfl) dX4_readItem_13 (fun H locs hw => ?_)
    have hw : zHw x A s.heap (zPW x b tb (zTp tb n y v) ++ zTW x t U lk) H locs := hw
    refine lv_if_eq (tgt := 26) hx hb dX4_readItem_16 (by decide) (fun c16 => ?_) (fun c16 => absurd (zb_0.mpr m1) c16)
    refine lv_iinc (v := 2) (lv' := [(2, .int 2), (0, .ref (b 1)), (1, .ref (t 0))]) hx hb dX4_readItem_26 hl (k := 0) rfl (by decide) (by decide) rfl (fun ls hl => ?_)
    refine lv_goto (tgt := 2) hx hb dX4_readItem_29 (by decide) ?_
    refine lv_iload_n hx hb dX4_readItem_2 rfl (lv_at hl 0 rfl) ?_
    refine lv_bipush (v := 6) hx hb dX4_readItem_3 (by decide) ?_
    refine lv_icmp_ge (tgt := 32) hx hb dX4_readItem_5 (by decide) (fun c5 => absurd c5 (by decide)) (fun c5 => ?_)
    refine lv_aload_n hx hb dX4_readItem_8 rfl (lv_at hl 1 rfl) ?_
    refine lv_iload_n hx hb dX4_readItem_9 rfl (lv_at hl 0 rfl) ?_
    refine zcSwa hx hb hml hown hts hl.1 hK hE hA lkX4_30 (c_X0_nameOf_2 x (zPW x b tb (zTp tb n y v) ++ zTW x t U lk)) ⟨Nat.le_of_ble_eq_true rfl, Nat.le_of_ble_eq_true rfl⟩ ⟨Nat.zero_le _, Nat.zero_le _⟩ hw rfl rfl (Nat.le_of_ble_eq_true rfl) dX4_readItem_10 (fun H locs hw => ?_)
    have hw : zHw x A s.heap (zPW x b tb (zTp tb n y v) ++ zTW x t U lk) H locs := hw
    refine zcVmi (r := zb (zIs tb n y (zNm 2))) (C1 := []) (C2 := (zTW x t U lk)) hx hb hml hown hts hl.1 hK hE hA lkX4_36 (c_X2_isAt x b tb n y v hn hy 2 (by decide)) ⟨Nat.le_of_ble_eq_true rfl, Nat.le_of_ble_eq_true rfl⟩ ⟨Nat.zero_le _, Nat.zero_le _⟩ hw 0 1 rfl rfl rfl rfl (Nat.le_of_ble_eq_true rfl) dX4_readItem_13 (fun H locs hw => ?_)
    have hw : zHw x A s.heap (zPW x b tb (zTp tb n y v) ++ zTW x t U lk) H locs := hw
    refine lv_if_eq (tgt := 26) hx hb dX4_readItem_16 (by decide) (fun c16 => ?_) (fun c16 => absurd (zb_0.mpr m2) c16)
    refine lv_iinc (v := 3) (lv' := [(2, .int 3), (0, .ref (b 1)), (1, .ref (t 0))]) hx hb dX4_readItem_26 hl (k := 0) rfl (by decide) (by decide) rfl (fun ls hl => ?_)
    refine lv_goto (tgt := 2) hx hb dX4_readItem_29 (by decide) ?_
    refine lv_iload_n hx hb dX4_readItem_2 rfl (lv_at hl 0 rfl) ?_
    refine lv_bipush (v := 6) hx hb dX4_readItem_3 (by decide) ?_
    refine lv_icmp_ge (tgt := 32) hx hb dX4_readItem_5 (by decide) (fun c5 => absurd c5 (by decide)) (fun c5 => ?_)
    refine lv_aload_n hx hb dX4_readItem_8 rfl (lv_at hl 1 rfl) ?_
    refine lv_iload_n hx hb dX4_readItem_9 rfl (lv_at hl 0 rfl) ?_
    refine zcSwa hx hb hml hown hts hl.1 hK hE hA lkX4_30 (c_X0_nameOf_3 x (zPW x b tb (zTp tb n y v) ++ zTW x t U lk)) ⟨Nat.le_of_ble_eq_true rfl, Nat.le_of_ble_eq_true rfl⟩ ⟨Nat.zero_le _, Nat.zero_le _⟩ hw rfl rfl (Nat.le_of_ble_eq_true rfl) dX4_readItem_10 (fun H locs hw => ?_)
    have hw : zHw x A s.heap (zPW x b tb (zTp tb n y v) ++ zTW x t U lk) H locs := hw
    refine zcVmi (r := zb (zIs tb n y (zNm 3))) (C1 := []) (C2 := (zTW x t U lk)) hx hb hml hown hts hl.1 hK hE hA lkX4_36 (c_X2_isAt x b tb n y v hn hy 3 (by decide)) ⟨Nat.le_of_ble_eq_true rfl, Nat.le_of_ble_eq_true rfl⟩ ⟨Nat.zero_le _, Nat.zero_le _⟩ hw 0 1 rfl rfl rfl rfl (Nat.le_of_ble_eq_true rfl) dX4_readItem_13 (fun H locs hw => ?_)
    have hw : zHw x A s.heap (zPW x b tb (zTp tb n y v) ++ zTW x t U lk) H locs := hw
    refine lv_if_eq (tgt := 26) hx hb dX4_readItem_16 (by decide) (fun c16 => absurd c16 (zb_n0.mpr m3)) (fun c16 => ?_)
    rcases hzz : zHo tb n y U 3 with z1 | ⟨y1, S1⟩
    · refine lv_aload_n hx hb dX4_readItem_19 rfl (lv_at hl 1 rfl) ?_
      refine lv_aload_n hx hb dX4_readItem_20 rfl (lv_at hl 2 rfl) ?_
      refine lv_iload_n hx hb dX4_readItem_21 rfl (lv_at hl 0 rfl) ?_
      refine zcSw hx hb hml hown hts hl.1 hK hE hA lkX4_40 (c_X4_readHole x b t tb n y v lk U hn hy 3 hI) ⟨Nat.le_of_ble_eq_true rfl, Nat.le_of_ble_eq_true rfl⟩ ⟨Nat.zero_le _, Nat.zero_le _⟩ hw rfl rfl (Nat.le_of_ble_eq_true rfl) dX4_readItem_22 (fun vv uu H locs hp hw => ?_)
      obtain ⟨v3, T3, hp2⟩ := hp
      rw [hzz] at hp2
      obtain ⟨rfl, rfl⟩ := hp2
      refine W.eq (g2 := F0 m 25 ls [.int 0]) rfl ?_
      have hw : zHw x A s.heap (zPW x b tb (zTp tb n z1 v3) ++ zTW x t T3 lk) H locs := hw
      exact zFG.zret hx hb hr hlocks hQ hw (zPT_fs _ _ _ _ _ _) dX4_readItem_25 (by decide) (zPC.i (show zIt tb n y U = .inl z1 from (if_pos (by rw [hki]; decide)).trans (by rw [hki]; exact hzz)))
    · refine lv_aload_n hx hb dX4_readItem_19 rfl (lv_at hl 1 rfl) ?_
      refine lv_aload_n hx hb dX4_readItem_20 rfl (lv_at hl 2 rfl) ?_
      refine lv_iload_n hx hb dX4_readItem_21 rfl (lv_at hl 0 rfl) ?_
      refine zcSw hx hb hml hown hts hl.1 hK hE hA lkX4_40 (c_X4_readHole x b t tb n y v lk U hn hy 3 hI) ⟨Nat.le_of_ble_eq_true rfl, Nat.le_of_ble_eq_true rfl⟩ ⟨Nat.zero_le _, Nat.zero_le _⟩ hw rfl rfl (Nat.le_of_ble_eq_true rfl) dX4_readItem_22 (fun vv uu H locs hp hw => ?_)
      obtain ⟨v3, T3, hp2⟩ := hp
      rw [hzz] at hp2
      obtain ⟨rfl, rfl⟩ := hp2
      refine W.eq (g2 := F0 m 25 ls [.int 1]) rfl ?_
      have hw : zHw x A s.heap (zPW x b tb (zTp tb n y1 v3) ++ zTW x t S1 lk) H locs := hw
      exact zFG.zret hx hb hr hlocks hQ hw (zPT_fs _ _ _ _ _ _) dX4_readItem_25 (by decide) (zPC.o (show zIt tb n y U = .inr (y1, S1) from (if_pos (by rw [hki]; decide)).trans (by rw [hki]; exact hzz)))
  · refine lv_istore_n (lv' := [(2, .int 0), (0, .ref (b 1)), (1, .ref (t 0))]) hx hb dX4_readItem_1 rfl hl (by decide) rfl (fun ls hl => ?_)
    refine lv_iload_n hx hb dX4_readItem_2 rfl (lv_at hl 0 rfl) ?_
    refine lv_bipush (v := 6) hx hb dX4_readItem_3 (by decide) ?_
    refine lv_icmp_ge (tgt := 32) hx hb dX4_readItem_5 (by decide) (fun c5 => absurd c5 (by decide)) (fun c5 => ?_)
    refine lv_aload_n hx hb dX4_readItem_8 rfl (lv_at hl 1 rfl) ?_
    refine lv_iload_n hx hb dX4_readItem_9 rfl (lv_at hl 0 rfl) ?_
    refine zcSwa hx hb hml hown hts hl.1 hK hE hA lkX4_30 (c_X0_nameOf_0 x (zPW x b tb (zTp tb n y v) ++ zTW x t U lk)) ⟨Nat.le_of_ble_eq_true rfl, Nat.le_of_ble_eq_true rfl⟩ ⟨Nat.zero_le _, Nat.zero_le _⟩ hw rfl rfl (Nat.le_of_ble_eq_true rfl) dX4_readItem_10 (fun H locs hw => ?_)
    have hw : zHw x A s.heap (zPW x b tb (zTp tb n y v) ++ zTW x t U lk) H locs := hw
    refine zcVmi (r := zb (zIs tb n y (zNm 0))) (C1 := []) (C2 := (zTW x t U lk)) hx hb hml hown hts hl.1 hK hE hA lkX4_36 (c_X2_isAt x b tb n y v hn hy 0 (by decide)) ⟨Nat.le_of_ble_eq_true rfl, Nat.le_of_ble_eq_true rfl⟩ ⟨Nat.zero_le _, Nat.zero_le _⟩ hw 0 1 rfl rfl rfl rfl (Nat.le_of_ble_eq_true rfl) dX4_readItem_13 (fun H locs hw => ?_)
    have hw : zHw x A s.heap (zPW x b tb (zTp tb n y v) ++ zTW x t U lk) H locs := hw
    refine lv_if_eq (tgt := 26) hx hb dX4_readItem_16 (by decide) (fun c16 => ?_) (fun c16 => absurd (zb_0.mpr m0) c16)
    refine lv_iinc (v := 1) (lv' := [(2, .int 1), (0, .ref (b 1)), (1, .ref (t 0))]) hx hb dX4_readItem_26 hl (k := 0) rfl (by decide) (by decide) rfl (fun ls hl => ?_)
    refine lv_goto (tgt := 2) hx hb dX4_readItem_29 (by decide) ?_
    refine lv_iload_n hx hb dX4_readItem_2 rfl (lv_at hl 0 rfl) ?_
    refine lv_bipush (v := 6) hx hb dX4_readItem_3 (by decide) ?_
    refine lv_icmp_ge (tgt := 32) hx hb dX4_readItem_5 (by decide) (fun c5 => absurd c5 (by decide)) (fun c5 => ?_)
    refine lv_aload_n hx hb dX4_readItem_8 rfl (lv_at hl 1 rfl) ?_
    refine lv_iload_n hx hb dX4_readItem_9 rfl (lv_at hl 0 rfl) ?_
    refine zcSwa hx hb hml hown hts hl.1 hK hE hA lkX4_30 (c_X0_nameOf_1 x (zPW x b tb (zTp tb n y v) ++ zTW x t U lk)) ⟨Nat.le_of_ble_eq_true rfl, Nat.le_of_ble_eq_true rfl⟩ ⟨Nat.zero_le _, Nat.zero_le _⟩ hw rfl rfl (Nat.le_of_ble_eq_true rfl) dX4_readItem_10 (fun H locs hw => ?_)
    have hw : zHw x A s.heap (zPW x b tb (zTp tb n y v) ++ zTW x t U lk) H locs := hw
    refine zcVmi (r := zb (zIs tb n y (zNm 1))) (C1 := []) (C2 := (zTW x t U lk)) hx hb hml hown hts hl.1 hK hE hA lkX4_36 (c_X2_isAt x b tb n y v hn hy 1 (by decide)) ⟨Nat.le_of_ble_eq_true rfl, Nat.le_of_ble_eq_true rfl⟩ ⟨Nat.zero_le _, Nat.zero_le _⟩ hw 0 1 rfl rfl rfl rfl (Nat.le_of_ble_eq_true rfl) dX4_readItem_13 (fun H locs hw => ?_)
    have hw : zHw x A s.heap (zPW x b tb (zTp tb n y v) ++ zTW x t U lk) H locs := hw
    refine lv_if_eq (tgt := 26) hx hb dX4_readItem_16 (by decide) (fun c16 => ?_) (fun c16 => absurd (zb_0.mpr m1) c16)
    refine lv_iinc (v := 2) (lv' := [(2, .int 2), (0, .ref (b 1)), (1, .ref (t 0))]) hx hb dX4_readItem_26 hl (k := 0) rfl (by decide) (by decide) rfl (fun ls hl => ?_)
    refine lv_goto (tgt := 2) hx hb dX4_readItem_29 (by decide) ?_
    refine lv_iload_n hx hb dX4_readItem_2 rfl (lv_at hl 0 rfl) ?_
    refine lv_bipush (v := 6) hx hb dX4_readItem_3 (by decide) ?_
    refine lv_icmp_ge (tgt := 32) hx hb dX4_readItem_5 (by decide) (fun c5 => absurd c5 (by decide)) (fun c5 => ?_)
    refine lv_aload_n hx hb dX4_readItem_8 rfl (lv_at hl 1 rfl) ?_
    refine lv_iload_n hx hb dX4_readItem_9 rfl (lv_at hl 0 rfl) ?_
    refine zcSwa hx hb hml hown hts hl.1 hK hE hA lkX4_30 (c_X0_nameOf_2 x (zPW x b tb (zTp tb n y v) ++ zTW x t U lk)) ⟨Nat.le_of_ble_eq_true rfl, Nat.le_of_ble_eq_true rfl⟩ ⟨Nat.zero_le _, Nat.zero_le _⟩ hw rfl rfl (Nat.le_of_ble_eq_true rfl) dX4_readItem_10 (fun H locs hw => ?_)
    have hw : zHw x A s.heap (zPW x b tb (zTp tb n y v) ++ zTW x t U lk) H locs := hw
    refine zcVmi (r := zb (zIs tb n y (zNm 2))) (C1 := []) (C2 := (zTW x t U lk)) hx hb hml hown hts hl.1 hK hE hA lkX4_36 (c_X2_isAt x b tb n y v hn hy 2 (by decide)) ⟨Nat.le_of_ble_eq_true rfl, Nat.le_of_ble_eq_true rfl⟩ ⟨Nat.zero_le _, Nat.zero_le _⟩ hw 0 1 rfl rfl rfl rfl (Nat.le_of_ble_eq_true rfl) dX4_readItem_13 (fun H locs hw => ?_)
    have hw : zHw x A s.heap (zPW x b tb (zTp tb n y v) ++ zTW x t U lk) H locs := hw
    refine lv_if_eq (tgt := 26) hx hb dX4_readItem_16 (by decide) (fun c16 => ?_) (fun c16 => absurd (zb_0.mpr m2) c16)
    refine lv_iinc (v := 3) (lv' := [(2, .int 3), (0, .ref (b 1)), (1, .ref (t 0))]) hx hb dX4_readItem_26 hl (k := 0) rfl (by decide) (by decide) rfl (fun ls hl => ?_)
    refine lv_goto (tgt := 2) hx hb dX4_readItem_29 (by decide) ?_
    refine lv_iload_n hx hb dX4_readItem_2 rfl (lv_at hl 0 rfl) ?_
    refine lv_bipush (v := 6) hx hb dX4_readItem_3 (by decide) ?_
    refine lv_icmp_ge (tgt := 32) hx hb dX4_readItem_5 (by decide) (fun c5 => absurd c5 (by decide)) (fun c5 => ?_)
    refine lv_aload_n hx hb dX4_readItem_8 rfl (lv_at hl 1 rfl) ?_
    refine lv_iload_n hx hb dX4_readItem_9 rfl (lv_at hl 0 rfl) ?_
    refine zcSwa hx hb hml hown hts hl.1 hK hE hA lkX4_30 (c_X0_nameOf_3 x (zPW x b tb (zTp tb n y v) ++ zTW x t U lk)) ⟨Nat.le_of_ble_eq_true rfl, Nat.le_of_ble_eq_true rfl⟩ ⟨Nat.zero_le _, Nat.zero_le _⟩ hw rfl rfl (Nat.le_of_ble_eq_true rfl) dX4_readItem_10 (fun H locs hw => ?_)
    have hw : zHw x A s.heap (zPW x b tb (zTp tb n y v) ++ zTW x t U lk) H locs := hw
    refine zcVmi (r := zb (zIs tb n y (zNm 3))) (C1 := []) (C2 := (zTW x t U lk)) hx hb hml hown hts hl.1 hK hE hA lkX4_36 (c_X2_isAt x b tb n y v hn hy 3 (by decide)) ⟨Nat.le_of_ble_eq_true rfl, Nat.le_of_ble_eq_true rfl⟩ ⟨Nat.zero_le _, Nat.zero_le _⟩ hw 0 1 rfl rfl rfl rfl (Nat.le_of_ble_eq_true rfl) dX4_readItem_13 (fun H locs hw => ?_)
    have hw : zHw x A s.heap (zPW x b tb (zTp tb n y v) ++ zTW x t U lk) H locs := hw
    refine lv_if_eq (tgt := 26) hx hb dX4_readItem_16 (by decide) (fun c16 => ?_) (fun c16 => absurd (zb_0.mpr m3) c16)
    refine lv_iinc (v := 4) (lv' := [(2, .int 4), (0, .ref (b 1)), (1, .ref (t 0))]) hx hb dX4_readItem_26 hl (k := 0) rfl (by decide) (by decide) rfl (fun ls hl => ?_)
    refine lv_goto (tgt := 2) hx hb dX4_readItem_29 (by decide) ?_
    refine lv_iload_n hx hb dX4_readItem_2 rfl (lv_at hl 0 rfl) ?_
    refine lv_bipush (v := 6) hx hb dX4_readItem_3 (by decide) ?_
    refine lv_icmp_ge (tgt := 32) hx hb dX4_readItem_5 (by decide) (fun c5 => absurd c5 (by decide)) (fun c5 => ?_)
    refine lv_aload_n hx hb dX4_readItem_8 rfl (lv_at hl 1 rfl) ?_
    refine lv_iload_n hx hb dX4_readItem_9 rfl (lv_at hl 0 rfl) ?_
    refine zcSwa hx hb hml hown hts hl.1 hK hE hA lkX4_30 (c_X0_nameOf_4 x (zPW x b tb (zTp tb n y v) ++ zTW x t U lk)) ⟨Nat.le_of_ble_eq_true rfl, Nat.le_of_ble_eq_true rfl⟩ ⟨Nat.zero_le _, Nat.zero_le _⟩ hw rfl rfl (Nat.le_of_ble_eq_true rfl) dX4_readItem_10 (fun H locs hw => ?_)
    have hw : zHw x A s.heap (zPW x b tb (zTp tb n y v) ++ zTW x t U lk) H locs := hw
    refine zcVmi (r := zb (zIs tb n y (zNm 4))) (C1 := []) (C2 := (zTW x t U lk)) hx hb hml hown hts hl.1 hK hE hA lkX4_36 (c_X2_isAt x b tb n y v hn hy 4 (by decide)) ⟨Nat.le_of_ble_eq_true rfl, Nat.le_of_ble_eq_true rfl⟩ ⟨Nat.zero_le _, Nat.zero_le _⟩ hw 0 1 rfl rfl rfl rfl (Nat.le_of_ble_eq_true rfl) dX4_readItem_13 (fun H locs hw => ?_)
    have hw : zHw x A s.heap (zPW x b tb (zTp tb n y v) ++ zTW x t U lk) H locs := hw
    refine lv_if_eq (tgt := 26) hx hb dX4_readItem_16 (by decide) (fun c16 => absurd c16 (zb_n0.mpr m4)) (fun c16 => ?_)
    rcases hzz : zHo tb n y U 4 with z1 | ⟨y1, S1⟩
    · refine lv_aload_n hx hb dX4_readItem_19 rfl (lv_at hl 1 rfl) ?_
      refine lv_aload_n hx hb dX4_readItem_20 rfl (lv_at hl 2 rfl) ?_
      refine lv_iload_n hx hb dX4_readItem_21 rfl (lv_at hl 0 rfl) ?_
      refine zcSw hx hb hml hown hts hl.1 hK hE hA lkX4_40 (c_X4_readHole x b t tb n y v lk U hn hy 4 hI) ⟨Nat.le_of_ble_eq_true rfl, Nat.le_of_ble_eq_true rfl⟩ ⟨Nat.zero_le _, Nat.zero_le _⟩ hw rfl rfl (Nat.le_of_ble_eq_true rfl) dX4_readItem_22 (fun vv uu H locs hp hw => ?_)
      obtain ⟨v3, T3, hp2⟩ := hp
      rw [hzz] at hp2
      obtain ⟨rfl, rfl⟩ := hp2
      refine W.eq (g2 := F0 m 25 ls [.int 0]) rfl ?_
      have hw : zHw x A s.heap (zPW x b tb (zTp tb n z1 v3) ++ zTW x t T3 lk) H locs := hw
      exact zFG.zret hx hb hr hlocks hQ hw (zPT_fs _ _ _ _ _ _) dX4_readItem_25 (by decide) (zPC.i (show zIt tb n y U = .inl z1 from (if_pos (by rw [hki]; decide)).trans (by rw [hki]; exact hzz)))
    · refine lv_aload_n hx hb dX4_readItem_19 rfl (lv_at hl 1 rfl) ?_
      refine lv_aload_n hx hb dX4_readItem_20 rfl (lv_at hl 2 rfl) ?_
      refine lv_iload_n hx hb dX4_readItem_21 rfl (lv_at hl 0 rfl) ?_
      refine zcSw hx hb hml hown hts hl.1 hK hE hA lkX4_40 (c_X4_readHole x b t tb n y v lk U hn hy 4 hI) ⟨Nat.le_of_ble_eq_true rfl, Nat.le_of_ble_eq_true rfl⟩ ⟨Nat.zero_le _, Nat.zero_le _⟩ hw rfl rfl (Nat.le_of_ble_eq_true rfl) dX4_readItem_22 (fun vv uu H locs hp hw => ?_)
      obtain ⟨v3, T3, hp2⟩ := hp
      rw [hzz] at hp2
      obtain ⟨rfl, rfl⟩ := hp2
      refine W.eq (g2 := F0 m 25 ls [.int 1]) rfl ?_
      have hw : zHw x A s.heap (zPW x b tb (zTp tb n y1 v3) ++ zTW x t S1 lk) H locs := hw
      exact zFG.zret hx hb hr hlocks hQ hw (zPT_fs _ _ _ _ _ _) dX4_readItem_25 (by decide) (zPC.o (show zIt tb n y U = .inr (y1, S1) from (if_pos (by rw [hki]; decide)).trans (by rw [hki]; exact hzz)))
  · refine lv_istore_n (lv' := [(2, .int 0), (0, .ref (b 1)), (1, .ref (t 0))]) hx hb dX4_readItem_1 rfl hl (by decide) rfl (fun ls hl => ?_)
    refine lv_iload_n hx hb dX4_readItem_2 rfl (lv_at hl 0 rfl) ?_
    refine lv_bipush (v := 6) hx hb dX4_readItem_3 (by decide) ?_
    refine lv_icmp_ge (tgt := 32) hx hb dX4_readItem_5 (by decide) (fun c5 => absurd c5 (by decide)) (fun c5 => ?_)
    refine lv_aload_n hx hb dX4_readItem_8 rfl (lv_at hl 1 rfl) ?_
    refine lv_iload_n hx hb dX4_readItem_9 rfl (lv_at hl 0 rfl) ?_
    refine zcSwa hx hb hml hown hts hl.1 hK hE hA lkX4_30 (c_X0_nameOf_0 x (zPW x b tb (zTp tb n y v) ++ zTW x t U lk)) ⟨Nat.le_of_ble_eq_true rfl, Nat.le_of_ble_eq_true rfl⟩ ⟨Nat.zero_le _, Nat.zero_le _⟩ hw rfl rfl (Nat.le_of_ble_eq_true rfl) dX4_readItem_10 (fun H locs hw => ?_)
    have hw : zHw x A s.heap (zPW x b tb (zTp tb n y v) ++ zTW x t U lk) H locs := hw
    refine zcVmi (r := zb (zIs tb n y (zNm 0))) (C1 := []) (C2 := (zTW x t U lk)) hx hb hml hown hts hl.1 hK hE hA lkX4_36 (c_X2_isAt x b tb n y v hn hy 0 (by decide)) ⟨Nat.le_of_ble_eq_true rfl, Nat.le_of_ble_eq_true rfl⟩ ⟨Nat.zero_le _, Nat.zero_le _⟩ hw 0 1 rfl rfl rfl rfl (Nat.le_of_ble_eq_true rfl) dX4_readItem_13 (fun H locs hw => ?_)
    have hw : zHw x A s.heap (zPW x b tb (zTp tb n y v) ++ zTW x t U lk) H locs := hw
    refine lv_if_eq (tgt := 26) hx hb dX4_readItem_16 (by decide) (fun c16 => ?_) (fun c16 => absurd (zb_0.mpr m0) c16)
    refine lv_iinc (v := 1) (lv' := [(2, .int 1), (0, .ref (b 1)), (1, .ref (t 0))]) hx hb dX4_readItem_26 hl (k := 0) rfl (by decide) (by decide) rfl (fun ls hl => ?_)
    refine lv_goto (tgt := 2) hx hb dX4_readItem_29 (by decide) ?_
    refine lv_iload_n hx hb dX4_readItem_2 rfl (lv_at hl 0 rfl) ?_
    refine lv_bipush (v := 6) hx hb dX4_readItem_3 (by decide) ?_
    refine lv_icmp_ge (tgt := 32) hx hb dX4_readItem_5 (by decide) (fun c5 => absurd c5 (by decide)) (fun c5 => ?_)
    refine lv_aload_n hx hb dX4_readItem_8 rfl (lv_at hl 1 rfl) ?_
    refine lv_iload_n hx hb dX4_readItem_9 rfl (lv_at hl 0 rfl) ?_
    refine zcSwa hx hb hml hown hts hl.1 hK hE hA lkX4_30 (c_X0_nameOf_1 x (zPW x b tb (zTp tb n y v) ++ zTW x t U lk)) ⟨Nat.le_of_ble_eq_true rfl, Nat.le_of_ble_eq_true rfl⟩ ⟨Nat.zero_le _, Nat.zero_le _⟩ hw rfl rfl (Nat.le_of_ble_eq_true rfl) dX4_readItem_10 (fun H locs hw => ?_)
    have hw : zHw x A s.heap (zPW x b tb (zTp tb n y v) ++ zTW x t U lk) H locs := hw
    refine zcVmi (r := zb (zIs tb n y (zNm 1))) (C1 := []) (C2 := (zTW x t U lk)) hx hb hml hown hts hl.1 hK hE hA lkX4_36 (c_X2_isAt x b tb n y v hn hy 1 (by decide)) ⟨Nat.le_of_ble_eq_true rfl, Nat.le_of_ble_eq_true rfl⟩ ⟨Nat.zero_le _, Nat.zero_le _⟩ hw 0 1 rfl rfl rfl rfl (Nat.le_of_ble_eq_true rfl) dX4_readItem_13 (fun H locs hw => ?_)
    have hw : zHw x A s.heap (zPW x b tb (zTp tb n y v) ++ zTW x t U lk) H locs := hw
    refine lv_if_eq (tgt := 26) hx hb dX4_readItem_16 (by decide) (fun c16 => ?_) (fun c16 => absurd (zb_0.mpr m1) c16)
    refine lv_iinc (v := 2) (lv' := [(2, .int 2), (0, .ref (b 1)), (1, .ref (t 0))]) hx hb dX4_readItem_26 hl (k := 0) rfl (by decide) (by decide) rfl (fun ls hl => ?_)
    refine lv_goto (tgt := 2) hx hb dX4_readItem_29 (by decide) ?_
    refine lv_iload_n hx hb dX4_readItem_2 rfl (lv_at hl 0 rfl) ?_
    refine lv_bipush (v := 6) hx hb dX4_readItem_3 (by decide) ?_
    refine lv_icmp_ge (tgt := 32) hx hb dX4_readItem_5 (by decide) (fun c5 => absurd c5 (by decide)) (fun c5 => ?_)
    refine lv_aload_n hx hb dX4_readItem_8 rfl (lv_at hl 1 rfl) ?_
    refine lv_iload_n hx hb dX4_readItem_9 rfl (lv_at hl 0 rfl) ?_
    refine zcSwa hx hb hml hown hts hl.1 hK hE hA lkX4_30 (c_X0_nameOf_2 x (zPW x b tb (zTp tb n y v) ++ zTW x t U lk)) ⟨Nat.le_of_ble_eq_true rfl, Nat.le_of_ble_eq_true rfl⟩ ⟨Nat.zero_le _, Nat.zero_le _⟩ hw rfl rfl (Nat.le_of_ble_eq_true rfl) dX4_readItem_10 (fun H locs hw => ?_)
    have hw : zHw x A s.heap (zPW x b tb (zTp tb n y v) ++ zTW x t U lk) H locs := hw
    refine zcVmi (r := zb (zIs tb n y (zNm 2))) (C1 := []) (C2 := (zTW x t U lk)) hx hb hml hown hts hl.1 hK hE hA lkX4_36 (c_X2_isAt x b tb n y v hn hy 2 (by decide)) ⟨Nat.le_of_ble_eq_true rfl, Nat.le_of_ble_eq_true rfl⟩ ⟨Nat.zero_le _, Nat.zero_le _⟩ hw 0 1 rfl rfl rfl rfl (Nat.le_of_ble_eq_true rfl) dX4_readItem_13 (fun H locs hw => ?_)
    have hw : zHw x A s.heap (zPW x b tb (zTp tb n y v) ++ zTW x t U lk) H locs := hw
    refine lv_if_eq (tgt := 26) hx hb dX4_readItem_16 (by decide) (fun c16 => ?_) (fun c16 => absurd (zb_0.mpr m2) c16)
    refine lv_iinc (v := 3) (lv' := [(2, .int 3), (0, .ref (b 1)), (1, .ref (t 0))]) hx hb dX4_readItem_26 hl (k := 0) rfl (by decide) (by decide) rfl (fun ls hl => ?_)
    refine lv_goto (tgt := 2) hx hb dX4_readItem_29 (by decide) ?_
    refine lv_iload_n hx hb dX4_readItem_2 rfl (lv_at hl 0 rfl) ?_
    refine lv_bipush (v := 6) hx hb dX4_readItem_3 (by decide) ?_
    refine lv_icmp_ge (tgt := 32) hx hb dX4_readItem_5 (by decide) (fun c5 => absurd c5 (by decide)) (fun c5 => ?_)
    refine lv_aload_n hx hb dX4_readItem_8 rfl (lv_at hl 1 rfl) ?_
    refine lv_iload_n hx hb dX4_readItem_9 rfl (lv_at hl 0 rfl) ?_
    refine zcSwa hx hb hml hown hts hl.1 hK hE hA lkX4_30 (c_X0_nameOf_3 x (zPW x b tb (zTp tb n y v) ++ zTW x t U lk)) ⟨Nat.le_of_ble_eq_true rfl, Nat.le_of_ble_eq_true rfl⟩ ⟨Nat.zero_le _, Nat.zero_le _⟩ hw rfl rfl (Nat.le_of_ble_eq_true rfl) dX4_readItem_10 (fun H locs hw => ?_)
    have hw : zHw x A s.heap (zPW x b tb (zTp tb n y v) ++ zTW x t U lk) H locs := hw
    refine zcVmi (r := zb (zIs tb n y (zNm 3))) (C1 := []) (C2 := (zTW x t U lk)) hx hb hml hown hts hl.1 hK hE hA lkX4_36 (c_X2_isAt x b tb n y v hn hy 3 (by decide)) ⟨Nat.le_of_ble_eq_true rfl, Nat.le_of_ble_eq_true rfl⟩ ⟨Nat.zero_le _, Nat.zero_le _⟩ hw 0 1 rfl rfl rfl rfl (Nat.le_of_ble_eq_true rfl) dX4_readItem_13 (fun H locs hw => ?_)
    have hw : zHw x A s.heap (zPW x b tb (zTp tb n y v) ++ zTW x t U lk) H locs := hw
    refine lv_if_eq (tgt := 26) hx hb dX4_readItem_16 (by decide) (fun c16 => ?_) (fun c16 => absurd (zb_0.mpr m3) c16)
    refine lv_iinc (v := 4) (lv' := [(2, .int 4), (0, .ref (b 1)), (1, .ref (t 0))]) hx hb dX4_readItem_26 hl (k := 0) rfl (by decide) (by decide) rfl (fun ls hl => ?_)
    refine lv_goto (tgt := 2) hx hb dX4_readItem_29 (by decide) ?_
    refine lv_iload_n hx hb dX4_readItem_2 rfl (lv_at hl 0 rfl) ?_
    refine lv_bipush (v := 6) hx hb dX4_readItem_3 (by decide) ?_
    refine lv_icmp_ge (tgt := 32) hx hb dX4_readItem_5 (by decide) (fun c5 => absurd c5 (by decide)) (fun c5 => ?_)
    refine lv_aload_n hx hb dX4_readItem_8 rfl (lv_at hl 1 rfl) ?_
    refine lv_iload_n hx hb dX4_readItem_9 rfl (lv_at hl 0 rfl) ?_
    refine zcSwa hx hb hml hown hts hl.1 hK hE hA lkX4_30 (c_X0_nameOf_4 x (zPW x b tb (zTp tb n y v) ++ zTW x t U lk)) ⟨Nat.le_of_ble_eq_true rfl, Nat.le_of_ble_eq_true rfl⟩ ⟨Nat.zero_le _, Nat.zero_le _⟩ hw rfl rfl (Nat.le_of_ble_eq_true rfl) dX4_readItem_10 (fun H locs hw => ?_)
    have hw : zHw x A s.heap (zPW x b tb (zTp tb n y v) ++ zTW x t U lk) H locs := hw
    refine zcVmi (r := zb (zIs tb n y (zNm 4))) (C1 := []) (C2 := (zTW x t U lk)) hx hb hml hown hts hl.1 hK hE hA lkX4_36 (c_X2_isAt x b tb n y v hn hy 4 (by decide)) ⟨Nat.le_of_ble_eq_true rfl, Nat.le_of_ble_eq_true rfl⟩ ⟨Nat.zero_le _, Nat.zero_le _⟩ hw 0 1 rfl rfl rfl rfl (Nat.le_of_ble_eq_true rfl) dX4_readItem_13 (fun H locs hw => ?_)
    have hw : zHw x A s.heap (zPW x b tb (zTp tb n y v) ++ zTW x t U lk) H locs := hw
    refine lv_if_eq (tgt := 26) hx hb dX4_readItem_16 (by decide) (fun c16 => ?_) (fun c16 => absurd (zb_0.mpr m4) c16)
    refine lv_iinc (v := 5) (lv' := [(2, .int 5), (0, .ref (b 1)), (1, .ref (t 0))]) hx hb dX4_readItem_26 hl (k := 0) rfl (by decide) (by decide) rfl (fun ls hl => ?_)
    refine lv_goto (tgt := 2) hx hb dX4_readItem_29 (by decide) ?_
    refine lv_iload_n hx hb dX4_readItem_2 rfl (lv_at hl 0 rfl) ?_
    refine lv_bipush (v := 6) hx hb dX4_readItem_3 (by decide) ?_
    refine lv_icmp_ge (tgt := 32) hx hb dX4_readItem_5 (by decide) (fun c5 => absurd c5 (by decide)) (fun c5 => ?_)
    refine lv_aload_n hx hb dX4_readItem_8 rfl (lv_at hl 1 rfl) ?_
    refine lv_iload_n hx hb dX4_readItem_9 rfl (lv_at hl 0 rfl) ?_
    refine zcSwa hx hb hml hown hts hl.1 hK hE hA lkX4_30 (c_X0_nameOf_5 x (zPW x b tb (zTp tb n y v) ++ zTW x t U lk)) ⟨Nat.le_of_ble_eq_true rfl, Nat.le_of_ble_eq_true rfl⟩ ⟨Nat.zero_le _, Nat.zero_le _⟩ hw rfl rfl (Nat.le_of_ble_eq_true rfl) dX4_readItem_10 (fun H locs hw => ?_)
    have hw : zHw x A s.heap (zPW x b tb (zTp tb n y v) ++ zTW x t U lk) H locs := hw
    refine zcVmi (r := zb (zIs tb n y (zNm 5))) (C1 := []) (C2 := (zTW x t U lk)) hx hb hml hown hts hl.1 hK hE hA lkX4_36 (c_X2_isAt x b tb n y v hn hy 5 (by decide)) ⟨Nat.le_of_ble_eq_true rfl, Nat.le_of_ble_eq_true rfl⟩ ⟨Nat.zero_le _, Nat.zero_le _⟩ hw 0 1 rfl rfl rfl rfl (Nat.le_of_ble_eq_true rfl) dX4_readItem_13 (fun H locs hw => ?_)
    have hw : zHw x A s.heap (zPW x b tb (zTp tb n y v) ++ zTW x t U lk) H locs := hw
    refine lv_if_eq (tgt := 26) hx hb dX4_readItem_16 (by decide) (fun c16 => absurd c16 (zb_n0.mpr m5)) (fun c16 => ?_)
    rcases hzz : zHo tb n y U 5 with z1 | ⟨y1, S1⟩
    · refine lv_aload_n hx hb dX4_readItem_19 rfl (lv_at hl 1 rfl) ?_
      refine lv_aload_n hx hb dX4_readItem_20 rfl (lv_at hl 2 rfl) ?_
      refine lv_iload_n hx hb dX4_readItem_21 rfl (lv_at hl 0 rfl) ?_
      refine zcSw hx hb hml hown hts hl.1 hK hE hA lkX4_40 (c_X4_readHole x b t tb n y v lk U hn hy 5 hI) ⟨Nat.le_of_ble_eq_true rfl, Nat.le_of_ble_eq_true rfl⟩ ⟨Nat.zero_le _, Nat.zero_le _⟩ hw rfl rfl (Nat.le_of_ble_eq_true rfl) dX4_readItem_22 (fun vv uu H locs hp hw => ?_)
      obtain ⟨v3, T3, hp2⟩ := hp
      rw [hzz] at hp2
      obtain ⟨rfl, rfl⟩ := hp2
      refine W.eq (g2 := F0 m 25 ls [.int 0]) rfl ?_
      have hw : zHw x A s.heap (zPW x b tb (zTp tb n z1 v3) ++ zTW x t T3 lk) H locs := hw
      exact zFG.zret hx hb hr hlocks hQ hw (zPT_fs _ _ _ _ _ _) dX4_readItem_25 (by decide) (zPC.i (show zIt tb n y U = .inl z1 from (if_pos (by rw [hki]; decide)).trans (by rw [hki]; exact hzz)))
    · refine lv_aload_n hx hb dX4_readItem_19 rfl (lv_at hl 1 rfl) ?_
      refine lv_aload_n hx hb dX4_readItem_20 rfl (lv_at hl 2 rfl) ?_
      refine lv_iload_n hx hb dX4_readItem_21 rfl (lv_at hl 0 rfl) ?_
      refine zcSw hx hb hml hown hts hl.1 hK hE hA lkX4_40 (c_X4_readHole x b t tb n y v lk U hn hy 5 hI) ⟨Nat.le_of_ble_eq_true rfl, Nat.le_of_ble_eq_true rfl⟩ ⟨Nat.zero_le _, Nat.zero_le _⟩ hw rfl rfl (Nat.le_of_ble_eq_true rfl) dX4_readItem_22 (fun vv uu H locs hp hw => ?_)
      obtain ⟨v3, T3, hp2⟩ := hp
      rw [hzz] at hp2
      obtain ⟨rfl, rfl⟩ := hp2
      refine W.eq (g2 := F0 m 25 ls [.int 1]) rfl ?_
      have hw : zHw x A s.heap (zPW x b tb (zTp tb n y1 v3) ++ zTW x t S1 lk) H locs := hw
      exact zFG.zret hx hb hr hlocks hQ hw (zPT_fs _ _ _ _ _ _) dX4_readItem_25 (by decide) (zPC.o (show zIt tb n y U = .inr (y1, S1) from (if_pos (by rw [hki]; decide)).trans (by rw [hki]; exact hzz)))
  · refine lv_istore_n (lv' := [(2, .int 0), (0, .ref (b 1)), (1, .ref (t 0))]) hx hb dX4_readItem_1 rfl hl (by decide) rfl (fun ls hl => ?_)
    refine lv_iload_n hx hb dX4_readItem_2 rfl (lv_at hl 0 rfl) ?_
    refine lv_bipush (v := 6) hx hb dX4_readItem_3 (by decide) ?_
    refine lv_icmp_ge (tgt := 32) hx hb dX4_readItem_5 (by decide) (fun c5 => absurd c5 (by decide)) (fun c5 => ?_)
    refine lv_aload_n hx hb dX4_readItem_8 rfl (lv_at hl 1 rfl) ?_
    refine lv_iload_n hx hb dX4_readItem_9 rfl (lv_at hl 0 rfl) ?_
    refine zcSwa hx hb hml hown hts hl.1 hK hE hA lkX4_30 (c_X0_nameOf_0 x (zPW x b tb (zTp tb n y v) ++ zTW x t U lk)) ⟨Nat.le_of_ble_eq_true rfl, Nat.le_of_ble_eq_true rfl⟩ ⟨Nat.zero_le _, Nat.zero_le _⟩ hw rfl rfl (Nat.le_of_ble_eq_true rfl) dX4_readItem_10 (fun H locs hw => ?_)
    have hw : zHw x A s.heap (zPW x b tb (zTp tb n y v) ++ zTW x t U lk) H locs := hw
    refine zcVmi (r := zb (zIs tb n y (zNm 0))) (C1 := []) (C2 := (zTW x t U lk)) hx hb hml hown hts hl.1 hK hE hA lkX4_36 (c_X2_isAt x b tb n y v hn hy 0 (by decide)) ⟨Nat.le_of_ble_eq_true rfl, Nat.le_of_ble_eq_true rfl⟩ ⟨Nat.zero_le _, Nat.zero_le _⟩ hw 0 1 rfl rfl rfl rfl (Nat.le_of_ble_eq_true rfl) dX4_readItem_13 (fun H locs hw => ?_)
    have hw : zHw x A s.heap (zPW x b tb (zTp tb n y v) ++ zTW x t U lk) H locs := hw
    refine lv_if_eq (tgt := 26) hx hb dX4_readItem_16 (by decide) (fun c16 => ?_) (fun c16 => absurd (zb_0.mpr m0) c16)
    refine lv_iinc (v := 1) (lv' := [(2, .int 1), (0, .ref (b 1)), (1, .ref (t 0))]) hx hb dX4_readItem_26 hl (k := 0) rfl (by decide) (by decide) rfl (fun ls hl => ?_)
    refine lv_goto (tgt := 2) hx hb dX4_readItem_29 (by decide) ?_
    refine lv_iload_n hx hb dX4_readItem_2 rfl (lv_at hl 0 rfl) ?_
    refine lv_bipush (v := 6) hx hb dX4_readItem_3 (by decide) ?_
    refine lv_icmp_ge (tgt := 32) hx hb dX4_readItem_5 (by decide) (fun c5 => absurd c5 (by decide)) (fun c5 => ?_)
    refine lv_aload_n hx hb dX4_readItem_8 rfl (lv_at hl 1 rfl) ?_
    refine lv_iload_n hx hb dX4_readItem_9 rfl (lv_at hl 0 rfl) ?_
    refine zcSwa hx hb hml hown hts hl.1 hK hE hA lkX4_30 (c_X0_nameOf_1 x (zPW x b tb (zTp tb n y v) ++ zTW x t U lk)) ⟨Nat.le_of_ble_eq_true rfl, Nat.le_of_ble_eq_true rfl⟩ ⟨Nat.zero_le _, Nat.zero_le _⟩ hw rfl rfl (Nat.le_of_ble_eq_true rfl) dX4_readItem_10 (fun H locs hw => ?_)
    have hw : zHw x A s.heap (zPW x b tb (zTp tb n y v) ++ zTW x t U lk) H locs := hw
    refine zcVmi (r := zb (zIs tb n y (zNm 1))) (C1 := []) (C2 := (zTW x t U lk)) hx hb hml hown hts hl.1 hK hE hA lkX4_36 (c_X2_isAt x b tb n y v hn hy 1 (by decide)) ⟨Nat.le_of_ble_eq_true rfl, Nat.le_of_ble_eq_true rfl⟩ ⟨Nat.zero_le _, Nat.zero_le _⟩ hw 0 1 rfl rfl rfl rfl (Nat.le_of_ble_eq_true rfl) dX4_readItem_13 (fun H locs hw => ?_)
    have hw : zHw x A s.heap (zPW x b tb (zTp tb n y v) ++ zTW x t U lk) H locs := hw
    refine lv_if_eq (tgt := 26) hx hb dX4_readItem_16 (by decide) (fun c16 => ?_) (fun c16 => absurd (zb_0.mpr m1) c16)
    refine lv_iinc (v := 2) (lv' := [(2, .int 2), (0, .ref (b 1)), (1, .ref (t 0))]) hx hb dX4_readItem_26 hl (k := 0) rfl (by decide) (by decide) rfl (fun ls hl => ?_)
    refine lv_goto (tgt := 2) hx hb dX4_readItem_29 (by decide) ?_
    refine lv_iload_n hx hb dX4_readItem_2 rfl (lv_at hl 0 rfl) ?_
    refine lv_bipush (v := 6) hx hb dX4_readItem_3 (by decide) ?_
    refine lv_icmp_ge (tgt := 32) hx hb dX4_readItem_5 (by decide) (fun c5 => absurd c5 (by decide)) (fun c5 => ?_)
    refine lv_aload_n hx hb dX4_readItem_8 rfl (lv_at hl 1 rfl) ?_
    refine lv_iload_n hx hb dX4_readItem_9 rfl (lv_at hl 0 rfl) ?_
    refine zcSwa hx hb hml hown hts hl.1 hK hE hA lkX4_30 (c_X0_nameOf_2 x (zPW x b tb (zTp tb n y v) ++ zTW x t U lk)) ⟨Nat.le_of_ble_eq_true rfl, Nat.le_of_ble_eq_true rfl⟩ ⟨Nat.zero_le _, Nat.zero_le _⟩ hw rfl rfl (Nat.le_of_ble_eq_true rfl) dX4_readItem_10 (fun H locs hw => ?_)
    have hw : zHw x A s.heap (zPW x b tb (zTp tb n y v) ++ zTW x t U lk) H locs := hw
    refine zcVmi (r := zb (zIs tb n y (zNm 2))) (C1 := []) (C2 := (zTW x t U lk)) hx hb hml hown hts hl.1 hK hE hA lkX4_36 (c_X2_isAt x b tb n y v hn hy 2 (by decide)) ⟨Nat.le_of_ble_eq_true rfl, Nat.le_of_ble_eq_true rfl⟩ ⟨Nat.zero_le _, Nat.zero_le _⟩ hw 0 1 rfl rfl rfl rfl (Nat.le_of_ble_eq_true rfl) dX4_readItem_13 (fun H locs hw => ?_)
    have hw : zHw x A s.heap (zPW x b tb (zTp tb n y v) ++ zTW x t U lk) H locs := hw
    refine lv_if_eq (tgt := 26) hx hb dX4_readItem_16 (by decide) (fun c16 => ?_) (fun c16 => absurd (zb_0.mpr m2) c16)
    refine lv_iinc (v := 3) (lv' := [(2, .int 3), (0, .ref (b 1)), (1, .ref (t 0))]) hx hb dX4_readItem_26 hl (k := 0) rfl (by decide) (by decide) rfl (fun ls hl => ?_)
    refine lv_goto (tgt := 2) hx hb dX4_readItem_29 (by decide) ?_
    refine lv_iload_n hx hb dX4_readItem_2 rfl (lv_at hl 0 rfl) ?_
    refine lv_bipush (v := 6) hx hb dX4_readItem_3 (by decide) ?_
    refine lv_icmp_ge (tgt := 32) hx hb dX4_readItem_5 (by decide) (fun c5 => absurd c5 (by decide)) (fun c5 => ?_)
    refine lv_aload_n hx hb dX4_readItem_8 rfl (lv_at hl 1 rfl) ?_
    refine lv_iload_n hx hb dX4_readItem_9 rfl (lv_at hl 0 rfl) ?_
    refine zcSwa hx hb hml hown hts hl.1 hK hE hA lkX4_30 (c_X0_nameOf_3 x (zPW x b tb (zTp tb n y v) ++ zTW x t U lk)) ⟨Nat.le_of_ble_eq_true rfl, Nat.le_of_ble_eq_true rfl⟩ ⟨Nat.zero_le _, Nat.zero_le _⟩ hw rfl rfl (Nat.le_of_ble_eq_true rfl) dX4_readItem_10 (fun H locs hw => ?_)
    have hw : zHw x A s.heap (zPW x b tb (zTp tb n y v) ++ zTW x t U lk) H locs := hw
    refine zcVmi (r := zb (zIs tb n y (zNm 3))) (C1 := []) (C2 := (zTW x t U lk)) hx hb hml hown hts hl.1 hK hE hA lkX4_36 (c_X2_isAt x b tb n y v hn hy 3 (by decide)) ⟨Nat.le_of_ble_eq_true rfl, Nat.le_of_ble_eq_true rfl⟩ ⟨Nat.zero_le _, Nat.zero_le _⟩ hw 0 1 rfl rfl rfl rfl (Nat.le_of_ble_eq_true rfl) dX4_readItem_13 (fun H locs hw => ?_)
    have hw : zHw x A s.heap (zPW x b tb (zTp tb n y v) ++ zTW x t U lk) H locs := hw
    refine lv_if_eq (tgt := 26) hx hb dX4_readItem_16 (by decide) (fun c16 => ?_) (fun c16 => absurd (zb_0.mpr m3) c16)
    refine lv_iinc (v := 4) (lv' := [(2, .int 4), (0, .ref (b 1)), (1, .ref (t 0))]) hx hb dX4_readItem_26 hl (k := 0) rfl (by decide) (by decide) rfl (fun ls hl => ?_)
    refine lv_goto (tgt := 2) hx hb dX4_readItem_29 (by decide) ?_
    refine lv_iload_n hx hb dX4_readItem_2 rfl (lv_at hl 0 rfl) ?_
    refine lv_bipush (v := 6) hx hb dX4_readItem_3 (by decide) ?_
    refine lv_icmp_ge (tgt := 32) hx hb dX4_readItem_5 (by decide) (fun c5 => absurd c5 (by decide)) (fun c5 => ?_)
    refine lv_aload_n hx hb dX4_readItem_8 rfl (lv_at hl 1 rfl) ?_
    refine lv_iload_n hx hb dX4_readItem_9 rfl (lv_at hl 0 rfl) ?_
    refine zcSwa hx hb hml hown hts hl.1 hK hE hA lkX4_30 (c_X0_nameOf_4 x (zPW x b tb (zTp tb n y v) ++ zTW x t U lk)) ⟨Nat.le_of_ble_eq_true rfl, Nat.le_of_ble_eq_true rfl⟩ ⟨Nat.zero_le _, Nat.zero_le _⟩ hw rfl rfl (Nat.le_of_ble_eq_true rfl) dX4_readItem_10 (fun H locs hw => ?_)
    have hw : zHw x A s.heap (zPW x b tb (zTp tb n y v) ++ zTW x t U lk) H locs := hw
    refine zcVmi (r := zb (zIs tb n y (zNm 4))) (C1 := []) (C2 := (zTW x t U lk)) hx hb hml hown hts hl.1 hK hE hA lkX4_36 (c_X2_isAt x b tb n y v hn hy 4 (by decide)) ⟨Nat.le_of_ble_eq_true rfl, Nat.le_of_ble_eq_true rfl⟩ ⟨Nat.zero_le _, Nat.zero_le _⟩ hw 0 1 rfl rfl rfl rfl (Nat.le_of_ble_eq_true rfl) dX4_readItem_13 (fun H locs hw => ?_)
    have hw : zHw x A s.heap (zPW x b tb (zTp tb n y v) ++ zTW x t U lk) H locs := hw
    refine lv_if_eq (tgt := 26) hx hb dX4_readItem_16 (by decide) (fun c16 => ?_) (fun c16 => absurd (zb_0.mpr m4) c16)
    refine lv_iinc (v := 5) (lv' := [(2, .int 5), (0, .ref (b 1)), (1, .ref (t 0))]) hx hb dX4_readItem_26 hl (k := 0) rfl (by decide) (by decide) rfl (fun ls hl => ?_)
    refine lv_goto (tgt := 2) hx hb dX4_readItem_29 (by decide) ?_
    refine lv_iload_n hx hb dX4_readItem_2 rfl (lv_at hl 0 rfl) ?_
    refine lv_bipush (v := 6) hx hb dX4_readItem_3 (by decide) ?_
    refine lv_icmp_ge (tgt := 32) hx hb dX4_readItem_5 (by decide) (fun c5 => absurd c5 (by decide)) (fun c5 => ?_)
    refine lv_aload_n hx hb dX4_readItem_8 rfl (lv_at hl 1 rfl) ?_
    refine lv_iload_n hx hb dX4_readItem_9 rfl (lv_at hl 0 rfl) ?_
    refine zcSwa hx hb hml hown hts hl.1 hK hE hA lkX4_30 (c_X0_nameOf_5 x (zPW x b tb (zTp tb n y v) ++ zTW x t U lk)) ⟨Nat.le_of_ble_eq_true rfl, Nat.le_of_ble_eq_true rfl⟩ ⟨Nat.zero_le _, Nat.zero_le _⟩ hw rfl rfl (Nat.le_of_ble_eq_true rfl) dX4_readItem_10 (fun H locs hw => ?_)
    have hw : zHw x A s.heap (zPW x b tb (zTp tb n y v) ++ zTW x t U lk) H locs := hw
    refine zcVmi (r := zb (zIs tb n y (zNm 5))) (C1 := []) (C2 := (zTW x t U lk)) hx hb hml hown hts hl.1 hK hE hA lkX4_36 (c_X2_isAt x b tb n y v hn hy 5 (by decide)) ⟨Nat.le_of_ble_eq_true rfl, Nat.le_of_ble_eq_true rfl⟩ ⟨Nat.zero_le _, Nat.zero_le _⟩ hw 0 1 rfl rfl rfl rfl (Nat.le_of_ble_eq_true rfl) dX4_readItem_13 (fun H locs hw => ?_)
    have hw : zHw x A s.heap (zPW x b tb (zTp tb n y v) ++ zTW x t U lk) H locs := hw
    refine lv_if_eq (tgt := 26) hx hb dX4_readItem_16 (by decide) (fun c16 => ?_) (fun c16 => absurd (zb_0.mpr m5) c16)
    refine lv_iinc (v := 6) (lv' := [(2, .int 6), (0, .ref (b 1)), (1, .ref (t 0))]) hx hb dX4_readItem_26 hl (k := 0) rfl (by decide) (by decide) rfl (fun ls hl => ?_)
    refine lv_goto (tgt := 2) hx hb dX4_readItem_29 (by decide) ?_
    refine lv_iload_n hx hb dX4_readItem_2 rfl (lv_at hl 0 rfl) ?_
    refine lv_bipush (v := 6) hx hb dX4_readItem_3 (by decide) ?_
    refine lv_icmp_ge (tgt := 32) hx hb dX4_readItem_5 (by decide) (fun c5 => ?_) (fun c5 => absurd (by decide) c5)
    refine lv_aload_n hx hb dX4_readItem_32 rfl (lv_at hl 1 rfl) ?_
    refine zldS hx hb hE hw hown 11 (by decide) rfl rfl dX4_readItem_33 ?_
    refine zcVmi (r := 1) (C1 := []) (C2 := (zTW x t U lk)) hx hb hml hown hts hl.1 hK hE hA lkX4_46 (c_X2_pass_t x b tb n y v hn hy 11 (by decide) hs) ⟨Nat.le_of_ble_eq_true rfl, Nat.le_of_ble_eq_true rfl⟩ ⟨Nat.zero_le _, Nat.zero_le _⟩ hw 0 1 rfl rfl rfl rfl (Nat.le_of_ble_eq_true rfl) dX4_readItem_35 (fun H locs hw => ?_)
    have hw : zHw x A s.heap (zPW x b tb (zTp tb n (zNx tb n y) v) ++ zTW x t U lk) H locs := hw
    refine lv_if_eq (tgt := 47) hx hb dX4_readItem_38 (by decide) (fun c38 => absurd c38 (by decide)) (fun c38 => ?_)
    rcases hzz : zSq tb n y U with z1 | ⟨y1, S1⟩
    · refine lv_aload_n hx hb dX4_readItem_41 rfl (lv_at hl 1 rfl) ?_
      refine lv_aload_n hx hb dX4_readItem_42 rfl (lv_at hl 2 rfl) ?_
      refine zcSw hx hb hml hown hts hl.1 hK hE hA lkX4_49 (c_X4_readStreet x b t tb n y v lk U hn hy hI) ⟨Nat.le_of_ble_eq_true rfl, Nat.le_of_ble_eq_true rfl⟩ ⟨Nat.zero_le _, Nat.zero_le _⟩ hw rfl rfl (Nat.le_of_ble_eq_true rfl) dX4_readItem_43 (fun vv uu H locs hp hw => ?_)
      obtain ⟨v3, T3, hp2⟩ := hp
      rw [hzz] at hp2
      obtain ⟨rfl, rfl⟩ := hp2
      refine W.eq (g2 := F0 m 46 ls [.int 0]) rfl ?_
      have hw : zHw x A s.heap (zPW x b tb (zTp tb n z1 v3) ++ zTW x t T3 lk) H locs := hw
      exact zFG.zret hx hb hr hlocks hQ hw (zPT_fs _ _ _ _ _ _) dX4_readItem_46 (by decide) (zPC.i (show zIt tb n y U = .inl z1 from (if_neg (by rw [hki]; decide)).trans ((if_pos hs).trans hzz)))
    · refine lv_aload_n hx hb dX4_readItem_41 rfl (lv_at hl 1 rfl) ?_
      refine lv_aload_n hx hb dX4_readItem_42 rfl (lv_at hl 2 rfl) ?_
      refine zcSw hx hb hml hown hts hl.1 hK hE hA lkX4_49 (c_X4_readStreet x b t tb n y v lk U hn hy hI) ⟨Nat.le_of_ble_eq_true rfl, Nat.le_of_ble_eq_true rfl⟩ ⟨Nat.zero_le _, Nat.zero_le _⟩ hw rfl rfl (Nat.le_of_ble_eq_true rfl) dX4_readItem_43 (fun vv uu H locs hp hw => ?_)
      obtain ⟨v3, T3, hp2⟩ := hp
      rw [hzz] at hp2
      obtain ⟨rfl, rfl⟩ := hp2
      refine W.eq (g2 := F0 m 46 ls [.int 1]) rfl ?_
      have hw : zHw x A s.heap (zPW x b tb (zTp tb n y1 v3) ++ zTW x t S1 lk) H locs := hw
      exact zFG.zret hx hb hr hlocks hQ hw (zPT_fs _ _ _ _ _ _) dX4_readItem_46 (by decide) (zPC.o (show zIt tb n y U = .inr (y1, S1) from (if_neg (by rw [hki]; decide)).trans ((if_pos hs).trans hzz)))
  · refine lv_istore_n (lv' := [(2, .int 0), (0, .ref (b 1)), (1, .ref (t 0))]) hx hb dX4_readItem_1 rfl hl (by decide) rfl (fun ls hl => ?_)
    refine lv_iload_n hx hb dX4_readItem_2 rfl (lv_at hl 0 rfl) ?_
    refine lv_bipush (v := 6) hx hb dX4_readItem_3 (by decide) ?_
    refine lv_icmp_ge (tgt := 32) hx hb dX4_readItem_5 (by decide) (fun c5 => absurd c5 (by decide)) (fun c5 => ?_)
    refine lv_aload_n hx hb dX4_readItem_8 rfl (lv_at hl 1 rfl) ?_
    refine lv_iload_n hx hb dX4_readItem_9 rfl (lv_at hl 0 rfl) ?_
    refine zcSwa hx hb hml hown hts hl.1 hK hE hA lkX4_30 (c_X0_nameOf_0 x (zPW x b tb (zTp tb n y v) ++ zTW x t U lk)) ⟨Nat.le_of_ble_eq_true rfl, Nat.le_of_ble_eq_true rfl⟩ ⟨Nat.zero_le _, Nat.zero_le _⟩ hw rfl rfl (Nat.le_of_ble_eq_true rfl) dX4_readItem_10 (fun H locs hw => ?_)
    have hw : zHw x A s.heap (zPW x b tb (zTp tb n y v) ++ zTW x t U lk) H locs := hw
    refine zcVmi (r := zb (zIs tb n y (zNm 0))) (C1 := []) (C2 := (zTW x t U lk)) hx hb hml hown hts hl.1 hK hE hA lkX4_36 (c_X2_isAt x b tb n y v hn hy 0 (by decide)) ⟨Nat.le_of_ble_eq_true rfl, Nat.le_of_ble_eq_true rfl⟩ ⟨Nat.zero_le _, Nat.zero_le _⟩ hw 0 1 rfl rfl rfl rfl (Nat.le_of_ble_eq_true rfl) dX4_readItem_13 (fun H locs hw => ?_)
    have hw : zHw x A s.heap (zPW x b tb (zTp tb n y v) ++ zTW x t U lk) H locs := hw
    refine lv_if_eq (tgt := 26) hx hb dX4_readItem_16 (by decide) (fun c16 => ?_) (fun c16 => absurd (zb_0.mpr m0) c16)
    refine lv_iinc (v := 1) (lv' := [(2, .int 1), (0, .ref (b 1)), (1, .ref (t 0))]) hx hb dX4_readItem_26 hl (k := 0) rfl (by decide) (by decide) rfl (fun ls hl => ?_)
    refine lv_goto (tgt := 2) hx hb dX4_readItem_29 (by decide) ?_
    refine lv_iload_n hx hb dX4_readItem_2 rfl (lv_at hl 0 rfl) ?_
    refine lv_bipush (v := 6) hx hb dX4_readItem_3 (by decide) ?_
    refine lv_icmp_ge (tgt := 32) hx hb dX4_readItem_5 (by decide) (fun c5 => absurd c5 (by decide)) (fun c5 => ?_)
    refine lv_aload_n hx hb dX4_readItem_8 rfl (lv_at hl 1 rfl) ?_
    refine lv_iload_n hx hb dX4_readItem_9 rfl (lv_at hl 0 rfl) ?_
    refine zcSwa hx hb hml hown hts hl.1 hK hE hA lkX4_30 (c_X0_nameOf_1 x (zPW x b tb (zTp tb n y v) ++ zTW x t U lk)) ⟨Nat.le_of_ble_eq_true rfl, Nat.le_of_ble_eq_true rfl⟩ ⟨Nat.zero_le _, Nat.zero_le _⟩ hw rfl rfl (Nat.le_of_ble_eq_true rfl) dX4_readItem_10 (fun H locs hw => ?_)
    have hw : zHw x A s.heap (zPW x b tb (zTp tb n y v) ++ zTW x t U lk) H locs := hw
    refine zcVmi (r := zb (zIs tb n y (zNm 1))) (C1 := []) (C2 := (zTW x t U lk)) hx hb hml hown hts hl.1 hK hE hA lkX4_36 (c_X2_isAt x b tb n y v hn hy 1 (by decide)) ⟨Nat.le_of_ble_eq_true rfl, Nat.le_of_ble_eq_true rfl⟩ ⟨Nat.zero_le _, Nat.zero_le _⟩ hw 0 1 rfl rfl rfl rfl (Nat.le_of_ble_eq_true rfl) dX4_readItem_13 (fun H locs hw => ?_)
    have hw : zHw x A s.heap (zPW x b tb (zTp tb n y v) ++ zTW x t U lk) H locs := hw
    refine lv_if_eq (tgt := 26) hx hb dX4_readItem_16 (by decide) (fun c16 => ?_) (fun c16 => absurd (zb_0.mpr m1) c16)
    refine lv_iinc (v := 2) (lv' := [(2, .int 2), (0, .ref (b 1)), (1, .ref (t 0))]) hx hb dX4_readItem_26 hl (k := 0) rfl (by decide) (by decide) rfl (fun ls hl => ?_)
    refine lv_goto (tgt := 2) hx hb dX4_readItem_29 (by decide) ?_
    refine lv_iload_n hx hb dX4_readItem_2 rfl (lv_at hl 0 rfl) ?_
    refine lv_bipush (v := 6) hx hb dX4_readItem_3 (by decide) ?_
    refine lv_icmp_ge (tgt := 32) hx hb dX4_readItem_5 (by decide) (fun c5 => absurd c5 (by decide)) (fun c5 => ?_)
    refine lv_aload_n hx hb dX4_readItem_8 rfl (lv_at hl 1 rfl) ?_
    refine lv_iload_n hx hb dX4_readItem_9 rfl (lv_at hl 0 rfl) ?_
    refine zcSwa hx hb hml hown hts hl.1 hK hE hA lkX4_30 (c_X0_nameOf_2 x (zPW x b tb (zTp tb n y v) ++ zTW x t U lk)) ⟨Nat.le_of_ble_eq_true rfl, Nat.le_of_ble_eq_true rfl⟩ ⟨Nat.zero_le _, Nat.zero_le _⟩ hw rfl rfl (Nat.le_of_ble_eq_true rfl) dX4_readItem_10 (fun H locs hw => ?_)
    have hw : zHw x A s.heap (zPW x b tb (zTp tb n y v) ++ zTW x t U lk) H locs := hw
    refine zcVmi (r := zb (zIs tb n y (zNm 2))) (C1 := []) (C2 := (zTW x t U lk)) hx hb hml hown hts hl.1 hK hE hA lkX4_36 (c_X2_isAt x b tb n y v hn hy 2 (by decide)) ⟨Nat.le_of_ble_eq_true rfl, Nat.le_of_ble_eq_true rfl⟩ ⟨Nat.zero_le _, Nat.zero_le _⟩ hw 0 1 rfl rfl rfl rfl (Nat.le_of_ble_eq_true rfl) dX4_readItem_13 (fun H locs hw => ?_)
    have hw : zHw x A s.heap (zPW x b tb (zTp tb n y v) ++ zTW x t U lk) H locs := hw
    refine lv_if_eq (tgt := 26) hx hb dX4_readItem_16 (by decide) (fun c16 => ?_) (fun c16 => absurd (zb_0.mpr m2) c16)
    refine lv_iinc (v := 3) (lv' := [(2, .int 3), (0, .ref (b 1)), (1, .ref (t 0))]) hx hb dX4_readItem_26 hl (k := 0) rfl (by decide) (by decide) rfl (fun ls hl => ?_)
    refine lv_goto (tgt := 2) hx hb dX4_readItem_29 (by decide) ?_
    refine lv_iload_n hx hb dX4_readItem_2 rfl (lv_at hl 0 rfl) ?_
    refine lv_bipush (v := 6) hx hb dX4_readItem_3 (by decide) ?_
    refine lv_icmp_ge (tgt := 32) hx hb dX4_readItem_5 (by decide) (fun c5 => absurd c5 (by decide)) (fun c5 => ?_)
    refine lv_aload_n hx hb dX4_readItem_8 rfl (lv_at hl 1 rfl) ?_
    refine lv_iload_n hx hb dX4_readItem_9 rfl (lv_at hl 0 rfl) ?_
    refine zcSwa hx hb hml hown hts hl.1 hK hE hA lkX4_30 (c_X0_nameOf_3 x (zPW x b tb (zTp tb n y v) ++ zTW x t U lk)) ⟨Nat.le_of_ble_eq_true rfl, Nat.le_of_ble_eq_true rfl⟩ ⟨Nat.zero_le _, Nat.zero_le _⟩ hw rfl rfl (Nat.le_of_ble_eq_true rfl) dX4_readItem_10 (fun H locs hw => ?_)
    have hw : zHw x A s.heap (zPW x b tb (zTp tb n y v) ++ zTW x t U lk) H locs := hw
    refine zcVmi (r := zb (zIs tb n y (zNm 3))) (C1 := []) (C2 := (zTW x t U lk)) hx hb hml hown hts hl.1 hK hE hA lkX4_36 (c_X2_isAt x b tb n y v hn hy 3 (by decide)) ⟨Nat.le_of_ble_eq_true rfl, Nat.le_of_ble_eq_true rfl⟩ ⟨Nat.zero_le _, Nat.zero_le _⟩ hw 0 1 rfl rfl rfl rfl (Nat.le_of_ble_eq_true rfl) dX4_readItem_13 (fun H locs hw => ?_)
    have hw : zHw x A s.heap (zPW x b tb (zTp tb n y v) ++ zTW x t U lk) H locs := hw
    refine lv_if_eq (tgt := 26) hx hb dX4_readItem_16 (by decide) (fun c16 => ?_) (fun c16 => absurd (zb_0.mpr m3) c16)
    refine lv_iinc (v := 4) (lv' := [(2, .int 4), (0, .ref (b 1)), (1, .ref (t 0))]) hx hb dX4_readItem_26 hl (k := 0) rfl (by decide) (by decide) rfl (fun ls hl => ?_)
    refine lv_goto (tgt := 2) hx hb dX4_readItem_29 (by decide) ?_
    refine lv_iload_n hx hb dX4_readItem_2 rfl (lv_at hl 0 rfl) ?_
    refine lv_bipush (v := 6) hx hb dX4_readItem_3 (by decide) ?_
    refine lv_icmp_ge (tgt := 32) hx hb dX4_readItem_5 (by decide) (fun c5 => absurd c5 (by decide)) (fun c5 => ?_)
    refine lv_aload_n hx hb dX4_readItem_8 rfl (lv_at hl 1 rfl) ?_
    refine lv_iload_n hx hb dX4_readItem_9 rfl (lv_at hl 0 rfl) ?_
    refine zcSwa hx hb hml hown hts hl.1 hK hE hA lkX4_30 (c_X0_nameOf_4 x (zPW x b tb (zTp tb n y v) ++ zTW x t U lk)) ⟨Nat.le_of_ble_eq_true rfl, Nat.le_of_ble_eq_true rfl⟩ ⟨Nat.zero_le _, Nat.zero_le _⟩ hw rfl rfl (Nat.le_of_ble_eq_true rfl) dX4_readItem_10 (fun H locs hw => ?_)
    have hw : zHw x A s.heap (zPW x b tb (zTp tb n y v) ++ zTW x t U lk) H locs := hw
    refine zcVmi (r := zb (zIs tb n y (zNm 4))) (C1 := []) (C2 := (zTW x t U lk)) hx hb hml hown hts hl.1 hK hE hA lkX4_36 (c_X2_isAt x b tb n y v hn hy 4 (by decide)) ⟨Nat.le_of_ble_eq_true rfl, Nat.le_of_ble_eq_true rfl⟩ ⟨Nat.zero_le _, Nat.zero_le _⟩ hw 0 1 rfl rfl rfl rfl (Nat.le_of_ble_eq_true rfl) dX4_readItem_13 (fun H locs hw => ?_)
    have hw : zHw x A s.heap (zPW x b tb (zTp tb n y v) ++ zTW x t U lk) H locs := hw
    refine lv_if_eq (tgt := 26) hx hb dX4_readItem_16 (by decide) (fun c16 => ?_) (fun c16 => absurd (zb_0.mpr m4) c16)
    refine lv_iinc (v := 5) (lv' := [(2, .int 5), (0, .ref (b 1)), (1, .ref (t 0))]) hx hb dX4_readItem_26 hl (k := 0) rfl (by decide) (by decide) rfl (fun ls hl => ?_)
    refine lv_goto (tgt := 2) hx hb dX4_readItem_29 (by decide) ?_
    refine lv_iload_n hx hb dX4_readItem_2 rfl (lv_at hl 0 rfl) ?_
    refine lv_bipush (v := 6) hx hb dX4_readItem_3 (by decide) ?_
    refine lv_icmp_ge (tgt := 32) hx hb dX4_readItem_5 (by decide) (fun c5 => absurd c5 (by decide)) (fun c5 => ?_)
    refine lv_aload_n hx hb dX4_readItem_8 rfl (lv_at hl 1 rfl) ?_
    refine lv_iload_n hx hb dX4_readItem_9 rfl (lv_at hl 0 rfl) ?_
    refine zcSwa hx hb hml hown hts hl.1 hK hE hA lkX4_30 (c_X0_nameOf_5 x (zPW x b tb (zTp tb n y v) ++ zTW x t U lk)) ⟨Nat.le_of_ble_eq_true rfl, Nat.le_of_ble_eq_true rfl⟩ ⟨Nat.zero_le _, Nat.zero_le _⟩ hw rfl rfl (Nat.le_of_ble_eq_true rfl) dX4_readItem_10 (fun H locs hw => ?_)
    have hw : zHw x A s.heap (zPW x b tb (zTp tb n y v) ++ zTW x t U lk) H locs := hw
    refine zcVmi (r := zb (zIs tb n y (zNm 5))) (C1 := []) (C2 := (zTW x t U lk)) hx hb hml hown hts hl.1 hK hE hA lkX4_36 (c_X2_isAt x b tb n y v hn hy 5 (by decide)) ⟨Nat.le_of_ble_eq_true rfl, Nat.le_of_ble_eq_true rfl⟩ ⟨Nat.zero_le _, Nat.zero_le _⟩ hw 0 1 rfl rfl rfl rfl (Nat.le_of_ble_eq_true rfl) dX4_readItem_13 (fun H locs hw => ?_)
    have hw : zHw x A s.heap (zPW x b tb (zTp tb n y v) ++ zTW x t U lk) H locs := hw
    refine lv_if_eq (tgt := 26) hx hb dX4_readItem_16 (by decide) (fun c16 => ?_) (fun c16 => absurd (zb_0.mpr m5) c16)
    refine lv_iinc (v := 6) (lv' := [(2, .int 6), (0, .ref (b 1)), (1, .ref (t 0))]) hx hb dX4_readItem_26 hl (k := 0) rfl (by decide) (by decide) rfl (fun ls hl => ?_)
    refine lv_goto (tgt := 2) hx hb dX4_readItem_29 (by decide) ?_
    refine lv_iload_n hx hb dX4_readItem_2 rfl (lv_at hl 0 rfl) ?_
    refine lv_bipush (v := 6) hx hb dX4_readItem_3 (by decide) ?_
    refine lv_icmp_ge (tgt := 32) hx hb dX4_readItem_5 (by decide) (fun c5 => ?_) (fun c5 => absurd (by decide) c5)
    refine lv_aload_n hx hb dX4_readItem_32 rfl (lv_at hl 1 rfl) ?_
    refine zldS hx hb hE hw hown 11 (by decide) rfl rfl dX4_readItem_33 ?_
    refine zcVmi (r := 0) (C1 := []) (C2 := (zTW x t U lk)) hx hb hml hown hts hl.1 hK hE hA lkX4_46 (c_X2_pass_f x b tb n y v hn hy 11 (by decide) hs) ⟨Nat.le_of_ble_eq_true rfl, Nat.le_of_ble_eq_true rfl⟩ ⟨Nat.zero_le _, Nat.zero_le _⟩ hw 0 1 rfl rfl rfl rfl (Nat.le_of_ble_eq_true rfl) dX4_readItem_35 (fun H locs hw => ?_)
    have hw : zHw x A s.heap (zPW x b tb (zTp tb n y v) ++ zTW x t U lk) H locs := hw
    refine lv_if_eq (tgt := 47) hx hb dX4_readItem_38 (by decide) (fun c38 => ?_) (fun c38 => absurd (by decide) c38)
    refine lv_aload_n hx hb dX4_readItem_47 rfl (lv_at hl 1 rfl) ?_
    refine zldS hx hb hE hw hown 14 (by decide) rfl rfl dX4_readItem_48 ?_
    refine zcVmi (r := 1) (C1 := []) (C2 := (zTW x t U lk)) hx hb hml hown hts hl.1 hK hE hA lkX4_46 (c_X2_pass_t x b tb n y v hn hy 14 (by decide) hb1) ⟨Nat.le_of_ble_eq_true rfl, Nat.le_of_ble_eq_true rfl⟩ ⟨Nat.zero_le _, Nat.zero_le _⟩ hw 0 1 rfl rfl rfl rfl (Nat.le_of_ble_eq_true rfl) dX4_readItem_50 (fun H locs hw => ?_)
    have hw : zHw x A s.heap (zPW x b tb (zTp tb n (zNx tb n y) v) ++ zTW x t U lk) H locs := hw
    refine lv_if_eq (tgt := 81) hx hb dX4_readItem_53 (by decide) (fun c53 => absurd c53 (by decide)) (fun c53 => ?_)
    rcases hq : zNu tb n (zNx tb n y) 9999 with _ | z
    · refine lv_aload_n hx hb dX4_readItem_56 rfl (lv_at hl 2 rfl) ?_
      refine lv_aload_n hx hb dX4_readItem_57 rfl (lv_at hl 1 rfl) ?_
      refine lv_sipush (v := 9999) hx hb dX4_readItem_58 (by decide) ?_
      refine zcVmi (r := (-1)) (C1 := []) (C2 := (zTW x t U lk)) hx hb hml hown hts hl.1 hK hE hA lkX4_54 (c_X2_passNumber_n x b tb n (zNx tb n y) v hn (zNx_le hy) 9999 (by decide) hq) ⟨Nat.le_of_ble_eq_true rfl, Nat.le_of_ble_eq_true rfl⟩ ⟨Nat.zero_le _, Nat.zero_le _⟩ hw 0 1 rfl rfl rfl rfl (Nat.le_of_ble_eq_true rfl) dX4_readItem_61 (fun H locs hw => ?_)
      have hw : zHw x A s.heap (zPW x b tb (zTp tb n (zNx tb n y) v) ++ zTW x t U lk) H locs := hw
      refine pfX4_58 hx hb hown hts hK hw 2 rfl (Nat.le_of_ble_eq_true rfl) dX4_readItem_64 (fun H locs hw => ?_)
      have hw : zHw x A s.heap (zPW x b tb (zTp tb n (zNx tb n y) v) ++ zTW x t (zU U 0 2 (-1)) lk) H locs := hw
      refine lv_aload_n hx hb dX4_readItem_67 rfl (lv_at hl 2 rfl) ?_
      refine gfX4_58 hx hb hown hts hK hw 2 rfl rfl dX4_readItem_68 ?_
      refine W.eq (g2 := F0 m 71 ls [.int (-1)]) (by rfl) ?_
      refine lv_iconst (v := (-1)) hx hb dX4_readItem_71 (by decide) ?_
      refine lv_icmp_eq (tgt := 79) hx hb dX4_readItem_72 (by decide) (fun c72 => ?_) (fun c72 => absurd (by decide) c72)
      refine lv_iconst (v := 0) hx hb dX4_readItem_79 (by decide) ?_
      exact zFG.zret hx hb hr hlocks hQ hw (zPT_fs _ _ _ _ _ _) dX4_readItem_80 (by decide) (zPC.i (show zIt tb n y U = _ from (if_neg (by rw [hki]; decide)).trans ((if_neg hs).trans ((if_pos hb1).trans (zFg_0 hq)))))
    · have hzm := zNu_le hq
      refine lv_aload_n hx hb dX4_readItem_56 rfl (lv_at hl 2 rfl) ?_
      refine lv_aload_n hx hb dX4_readItem_57 rfl (lv_at hl 1 rfl) ?_
      refine lv_sipush (v := 9999) hx hb dX4_readItem_58 (by decide) ?_
      refine zcVmi (r := nI z) (C1 := []) (C2 := (zTW x t U lk)) hx hb hml hown hts hl.1 hK hE hA lkX4_54 (c_X2_passNumber_s x b tb n (zNx tb n y) v hn (zNx_le hy) 9999 z (by decide) hq) ⟨Nat.le_of_ble_eq_true rfl, Nat.le_of_ble_eq_true rfl⟩ ⟨Nat.zero_le _, Nat.zero_le _⟩ hw 0 1 rfl rfl rfl rfl (Nat.le_of_ble_eq_true rfl) dX4_readItem_61 (fun H locs hw => ?_)
      have hw : zHw x A s.heap (zPW x b tb (zTp tb n (zNx tb n (zNx tb n y)) (nI z)) ++ zTW x t U lk) H locs := hw
      refine pfX4_58 hx hb hown hts hK hw 2 rfl (Nat.le_of_ble_eq_true rfl) dX4_readItem_64 (fun H locs hw => ?_)
      have hw : zHw x A s.heap (zPW x b tb (zTp tb n (zNx tb n (zNx tb n y)) (nI z)) ++ zTW x t (zU U 0 2 (nI z)) lk) H locs := hw
      refine lv_aload_n hx hb dX4_readItem_67 rfl (lv_at hl 2 rfl) ?_
      refine gfX4_58 hx hb hown hts hK hw 2 rfl rfl dX4_readItem_68 ?_
      refine W.eq (g2 := F0 m 71 ls [.int (nI z)]) (by rfl) ?_
      refine lv_iconst (v := (-1)) hx hb dX4_readItem_71 (by decide) ?_
      refine lv_icmp_eq (tgt := 79) hx hb dX4_readItem_72 (by decide) (fun c72 => absurd c72 (zne1 (by omega))) (fun c72 => ?_)
      refine lv_iconst (v := 1) hx hb dX4_readItem_75 (by decide) ?_
      refine lv_goto (tgt := 80) hx hb dX4_readItem_76 (by decide) ?_
      exact zFG.zret hx hb hr hlocks hQ hw (zPT_fs _ _ _ _ _ _) dX4_readItem_80 (by decide) (zPC.o (show zIt tb n y U = _ from (if_neg (by rw [hki]; decide)).trans ((if_neg hs).trans ((if_pos hb1).trans (zFg_1 hq)))))
  · refine lv_istore_n (lv' := [(2, .int 0), (0, .ref (b 1)), (1, .ref (t 0))]) hx hb dX4_readItem_1 rfl hl (by decide) rfl (fun ls hl => ?_)
    refine lv_iload_n hx hb dX4_readItem_2 rfl (lv_at hl 0 rfl) ?_
    refine lv_bipush (v := 6) hx hb dX4_readItem_3 (by decide) ?_
    refine lv_icmp_ge (tgt := 32) hx hb dX4_readItem_5 (by decide) (fun c5 => absurd c5 (by decide)) (fun c5 => ?_)
    refine lv_aload_n hx hb dX4_readItem_8 rfl (lv_at hl 1 rfl) ?_
    refine lv_iload_n hx hb dX4_readItem_9 rfl (lv_at hl 0 rfl) ?_
    refine zcSwa hx hb hml hown hts hl.1 hK hE hA lkX4_30 (c_X0_nameOf_0 x (zPW x b tb (zTp tb n y v) ++ zTW x t U lk)) ⟨Nat.le_of_ble_eq_true rfl, Nat.le_of_ble_eq_true rfl⟩ ⟨Nat.zero_le _, Nat.zero_le _⟩ hw rfl rfl (Nat.le_of_ble_eq_true rfl) dX4_readItem_10 (fun H locs hw => ?_)
    have hw : zHw x A s.heap (zPW x b tb (zTp tb n y v) ++ zTW x t U lk) H locs := hw
    refine zcVmi (r := zb (zIs tb n y (zNm 0))) (C1 := []) (C2 := (zTW x t U lk)) hx hb hml hown hts hl.1 hK hE hA lkX4_36 (c_X2_isAt x b tb n y v hn hy 0 (by decide)) ⟨Nat.le_of_ble_eq_true rfl, Nat.le_of_ble_eq_true rfl⟩ ⟨Nat.zero_le _, Nat.zero_le _⟩ hw 0 1 rfl rfl rfl rfl (Nat.le_of_ble_eq_true rfl) dX4_readItem_13 (fun H locs hw => ?_)
    have hw : zHw x A s.heap (zPW x b tb (zTp tb n y v) ++ zTW x t U lk) H locs := hw
    refine lv_if_eq (tgt := 26) hx hb dX4_readItem_16 (by decide) (fun c16 => ?_) (fun c16 => absurd (zb_0.mpr m0) c16)
    refine lv_iinc (v := 1) (lv' := [(2, .int 1), (0, .ref (b 1)), (1, .ref (t 0))]) hx hb dX4_readItem_26 hl (k := 0) rfl (by decide) (by decide) rfl (fun ls hl => ?_)
    refine lv_goto (tgt := 2) hx hb dX4_readItem_29 (by decide) ?_
    refine lv_iload_n hx hb dX4_readItem_2 rfl (lv_at hl 0 rfl) ?_
    refine lv_bipush (v := 6) hx hb dX4_readItem_3 (by decide) ?_
    refine lv_icmp_ge (tgt := 32) hx hb dX4_readItem_5 (by decide) (fun c5 => absurd c5 (by decide)) (fun c5 => ?_)
    refine lv_aload_n hx hb dX4_readItem_8 rfl (lv_at hl 1 rfl) ?_
    refine lv_iload_n hx hb dX4_readItem_9 rfl (lv_at hl 0 rfl) ?_
    refine zcSwa hx hb hml hown hts hl.1 hK hE hA lkX4_30 (c_X0_nameOf_1 x (zPW x b tb (zTp tb n y v) ++ zTW x t U lk)) ⟨Nat.le_of_ble_eq_true rfl, Nat.le_of_ble_eq_true rfl⟩ ⟨Nat.zero_le _, Nat.zero_le _⟩ hw rfl rfl (Nat.le_of_ble_eq_true rfl) dX4_readItem_10 (fun H locs hw => ?_)
    have hw : zHw x A s.heap (zPW x b tb (zTp tb n y v) ++ zTW x t U lk) H locs := hw
    refine zcVmi (r := zb (zIs tb n y (zNm 1))) (C1 := []) (C2 := (zTW x t U lk)) hx hb hml hown hts hl.1 hK hE hA lkX4_36 (c_X2_isAt x b tb n y v hn hy 1 (by decide)) ⟨Nat.le_of_ble_eq_true rfl, Nat.le_of_ble_eq_true rfl⟩ ⟨Nat.zero_le _, Nat.zero_le _⟩ hw 0 1 rfl rfl rfl rfl (Nat.le_of_ble_eq_true rfl) dX4_readItem_13 (fun H locs hw => ?_)
    have hw : zHw x A s.heap (zPW x b tb (zTp tb n y v) ++ zTW x t U lk) H locs := hw
    refine lv_if_eq (tgt := 26) hx hb dX4_readItem_16 (by decide) (fun c16 => ?_) (fun c16 => absurd (zb_0.mpr m1) c16)
    refine lv_iinc (v := 2) (lv' := [(2, .int 2), (0, .ref (b 1)), (1, .ref (t 0))]) hx hb dX4_readItem_26 hl (k := 0) rfl (by decide) (by decide) rfl (fun ls hl => ?_)
    refine lv_goto (tgt := 2) hx hb dX4_readItem_29 (by decide) ?_
    refine lv_iload_n hx hb dX4_readItem_2 rfl (lv_at hl 0 rfl) ?_
    refine lv_bipush (v := 6) hx hb dX4_readItem_3 (by decide) ?_
    refine lv_icmp_ge (tgt := 32) hx hb dX4_readItem_5 (by decide) (fun c5 => absurd c5 (by decide)) (fun c5 => ?_)
    refine lv_aload_n hx hb dX4_readItem_8 rfl (lv_at hl 1 rfl) ?_
    refine lv_iload_n hx hb dX4_readItem_9 rfl (lv_at hl 0 rfl) ?_
    refine zcSwa hx hb hml hown hts hl.1 hK hE hA lkX4_30 (c_X0_nameOf_2 x (zPW x b tb (zTp tb n y v) ++ zTW x t U lk)) ⟨Nat.le_of_ble_eq_true rfl, Nat.le_of_ble_eq_true rfl⟩ ⟨Nat.zero_le _, Nat.zero_le _⟩ hw rfl rfl (Nat.le_of_ble_eq_true rfl) dX4_readItem_10 (fun H locs hw => ?_)
    have hw : zHw x A s.heap (zPW x b tb (zTp tb n y v) ++ zTW x t U lk) H locs := hw
    refine zcVmi (r := zb (zIs tb n y (zNm 2))) (C1 := []) (C2 := (zTW x t U lk)) hx hb hml hown hts hl.1 hK hE hA lkX4_36 (c_X2_isAt x b tb n y v hn hy 2 (by decide)) ⟨Nat.le_of_ble_eq_true rfl, Nat.le_of_ble_eq_true rfl⟩ ⟨Nat.zero_le _, Nat.zero_le _⟩ hw 0 1 rfl rfl rfl rfl (Nat.le_of_ble_eq_true rfl) dX4_readItem_13 (fun H locs hw => ?_)
    have hw : zHw x A s.heap (zPW x b tb (zTp tb n y v) ++ zTW x t U lk) H locs := hw
    refine lv_if_eq (tgt := 26) hx hb dX4_readItem_16 (by decide) (fun c16 => ?_) (fun c16 => absurd (zb_0.mpr m2) c16)
    refine lv_iinc (v := 3) (lv' := [(2, .int 3), (0, .ref (b 1)), (1, .ref (t 0))]) hx hb dX4_readItem_26 hl (k := 0) rfl (by decide) (by decide) rfl (fun ls hl => ?_)
    refine lv_goto (tgt := 2) hx hb dX4_readItem_29 (by decide) ?_
    refine lv_iload_n hx hb dX4_readItem_2 rfl (lv_at hl 0 rfl) ?_
    refine lv_bipush (v := 6) hx hb dX4_readItem_3 (by decide) ?_
    refine lv_icmp_ge (tgt := 32) hx hb dX4_readItem_5 (by decide) (fun c5 => absurd c5 (by decide)) (fun c5 => ?_)
    refine lv_aload_n hx hb dX4_readItem_8 rfl (lv_at hl 1 rfl) ?_
    refine lv_iload_n hx hb dX4_readItem_9 rfl (lv_at hl 0 rfl) ?_
    refine zcSwa hx hb hml hown hts hl.1 hK hE hA lkX4_30 (c_X0_nameOf_3 x (zPW x b tb (zTp tb n y v) ++ zTW x t U lk)) ⟨Nat.le_of_ble_eq_true rfl, Nat.le_of_ble_eq_true rfl⟩ ⟨Nat.zero_le _, Nat.zero_le _⟩ hw rfl rfl (Nat.le_of_ble_eq_true rfl) dX4_readItem_10 (fun H locs hw => ?_)
    have hw : zHw x A s.heap (zPW x b tb (zTp tb n y v) ++ zTW x t U lk) H locs := hw
    refine zcVmi (r := zb (zIs tb n y (zNm 3))) (C1 := []) (C2 := (zTW x t U lk)) hx hb hml hown hts hl.1 hK hE hA lkX4_36 (c_X2_isAt x b tb n y v hn hy 3 (by decide)) ⟨Nat.le_of_ble_eq_true rfl, Nat.le_of_ble_eq_true rfl⟩ ⟨Nat.zero_le _, Nat.zero_le _⟩ hw 0 1 rfl rfl rfl rfl (Nat.le_of_ble_eq_true rfl) dX4_readItem_13 (fun H locs hw => ?_)
    have hw : zHw x A s.heap (zPW x b tb (zTp tb n y v) ++ zTW x t U lk) H locs := hw
    refine lv_if_eq (tgt := 26) hx hb dX4_readItem_16 (by decide) (fun c16 => ?_) (fun c16 => absurd (zb_0.mpr m3) c16)
    refine lv_iinc (v := 4) (lv' := [(2, .int 4), (0, .ref (b 1)), (1, .ref (t 0))]) hx hb dX4_readItem_26 hl (k := 0) rfl (by decide) (by decide) rfl (fun ls hl => ?_)
    refine lv_goto (tgt := 2) hx hb dX4_readItem_29 (by decide) ?_
    refine lv_iload_n hx hb dX4_readItem_2 rfl (lv_at hl 0 rfl) ?_
    refine lv_bipush (v := 6) hx hb dX4_readItem_3 (by decide) ?_
    refine lv_icmp_ge (tgt := 32) hx hb dX4_readItem_5 (by decide) (fun c5 => absurd c5 (by decide)) (fun c5 => ?_)
    refine lv_aload_n hx hb dX4_readItem_8 rfl (lv_at hl 1 rfl) ?_
    refine lv_iload_n hx hb dX4_readItem_9 rfl (lv_at hl 0 rfl) ?_
    refine zcSwa hx hb hml hown hts hl.1 hK hE hA lkX4_30 (c_X0_nameOf_4 x (zPW x b tb (zTp tb n y v) ++ zTW x t U lk)) ⟨Nat.le_of_ble_eq_true rfl, Nat.le_of_ble_eq_true rfl⟩ ⟨Nat.zero_le _, Nat.zero_le _⟩ hw rfl rfl (Nat.le_of_ble_eq_true rfl) dX4_readItem_10 (fun H locs hw => ?_)
    have hw : zHw x A s.heap (zPW x b tb (zTp tb n y v) ++ zTW x t U lk) H locs := hw
    refine zcVmi (r := zb (zIs tb n y (zNm 4))) (C1 := []) (C2 := (zTW x t U lk)) hx hb hml hown hts hl.1 hK hE hA lkX4_36 (c_X2_isAt x b tb n y v hn hy 4 (by decide)) ⟨Nat.le_of_ble_eq_true rfl, Nat.le_of_ble_eq_true rfl⟩ ⟨Nat.zero_le _, Nat.zero_le _⟩ hw 0 1 rfl rfl rfl rfl (Nat.le_of_ble_eq_true rfl) dX4_readItem_13 (fun H locs hw => ?_)
    have hw : zHw x A s.heap (zPW x b tb (zTp tb n y v) ++ zTW x t U lk) H locs := hw
    refine lv_if_eq (tgt := 26) hx hb dX4_readItem_16 (by decide) (fun c16 => ?_) (fun c16 => absurd (zb_0.mpr m4) c16)
    refine lv_iinc (v := 5) (lv' := [(2, .int 5), (0, .ref (b 1)), (1, .ref (t 0))]) hx hb dX4_readItem_26 hl (k := 0) rfl (by decide) (by decide) rfl (fun ls hl => ?_)
    refine lv_goto (tgt := 2) hx hb dX4_readItem_29 (by decide) ?_
    refine lv_iload_n hx hb dX4_readItem_2 rfl (lv_at hl 0 rfl) ?_
    refine lv_bipush (v := 6) hx hb dX4_readItem_3 (by decide) ?_
    refine lv_icmp_ge (tgt := 32) hx hb dX4_readItem_5 (by decide) (fun c5 => absurd c5 (by decide)) (fun c5 => ?_)
    refine lv_aload_n hx hb dX4_readItem_8 rfl (lv_at hl 1 rfl) ?_
    refine lv_iload_n hx hb dX4_readItem_9 rfl (lv_at hl 0 rfl) ?_
    refine zcSwa hx hb hml hown hts hl.1 hK hE hA lkX4_30 (c_X0_nameOf_5 x (zPW x b tb (zTp tb n y v) ++ zTW x t U lk)) ⟨Nat.le_of_ble_eq_true rfl, Nat.le_of_ble_eq_true rfl⟩ ⟨Nat.zero_le _, Nat.zero_le _⟩ hw rfl rfl (Nat.le_of_ble_eq_true rfl) dX4_readItem_10 (fun H locs hw => ?_)
    have hw : zHw x A s.heap (zPW x b tb (zTp tb n y v) ++ zTW x t U lk) H locs := hw
    refine zcVmi (r := zb (zIs tb n y (zNm 5))) (C1 := []) (C2 := (zTW x t U lk)) hx hb hml hown hts hl.1 hK hE hA lkX4_36 (c_X2_isAt x b tb n y v hn hy 5 (by decide)) ⟨Nat.le_of_ble_eq_true rfl, Nat.le_of_ble_eq_true rfl⟩ ⟨Nat.zero_le _, Nat.zero_le _⟩ hw 0 1 rfl rfl rfl rfl (Nat.le_of_ble_eq_true rfl) dX4_readItem_13 (fun H locs hw => ?_)
    have hw : zHw x A s.heap (zPW x b tb (zTp tb n y v) ++ zTW x t U lk) H locs := hw
    refine lv_if_eq (tgt := 26) hx hb dX4_readItem_16 (by decide) (fun c16 => ?_) (fun c16 => absurd (zb_0.mpr m5) c16)
    refine lv_iinc (v := 6) (lv' := [(2, .int 6), (0, .ref (b 1)), (1, .ref (t 0))]) hx hb dX4_readItem_26 hl (k := 0) rfl (by decide) (by decide) rfl (fun ls hl => ?_)
    refine lv_goto (tgt := 2) hx hb dX4_readItem_29 (by decide) ?_
    refine lv_iload_n hx hb dX4_readItem_2 rfl (lv_at hl 0 rfl) ?_
    refine lv_bipush (v := 6) hx hb dX4_readItem_3 (by decide) ?_
    refine lv_icmp_ge (tgt := 32) hx hb dX4_readItem_5 (by decide) (fun c5 => ?_) (fun c5 => absurd (by decide) c5)
    refine lv_aload_n hx hb dX4_readItem_32 rfl (lv_at hl 1 rfl) ?_
    refine zldS hx hb hE hw hown 11 (by decide) rfl rfl dX4_readItem_33 ?_
    refine zcVmi (r := 0) (C1 := []) (C2 := (zTW x t U lk)) hx hb hml hown hts hl.1 hK hE hA lkX4_46 (c_X2_pass_f x b tb n y v hn hy 11 (by decide) hs) ⟨Nat.le_of_ble_eq_true rfl, Nat.le_of_ble_eq_true rfl⟩ ⟨Nat.zero_le _, Nat.zero_le _⟩ hw 0 1 rfl rfl rfl rfl (Nat.le_of_ble_eq_true rfl) dX4_readItem_35 (fun H locs hw => ?_)
    have hw : zHw x A s.heap (zPW x b tb (zTp tb n y v) ++ zTW x t U lk) H locs := hw
    refine lv_if_eq (tgt := 47) hx hb dX4_readItem_38 (by decide) (fun c38 => ?_) (fun c38 => absurd (by decide) c38)
    refine lv_aload_n hx hb dX4_readItem_47 rfl (lv_at hl 1 rfl) ?_
    refine zldS hx hb hE hw hown 14 (by decide) rfl rfl dX4_readItem_48 ?_
    refine zcVmi (r := 0) (C1 := []) (C2 := (zTW x t U lk)) hx hb hml hown hts hl.1 hK hE hA lkX4_46 (c_X2_pass_f x b tb n y v hn hy 14 (by decide) hb1) ⟨Nat.le_of_ble_eq_true rfl, Nat.le_of_ble_eq_true rfl⟩ ⟨Nat.zero_le _, Nat.zero_le _⟩ hw 0 1 rfl rfl rfl rfl (Nat.le_of_ble_eq_true rfl) dX4_readItem_50 (fun H locs hw => ?_)
    have hw : zHw x A s.heap (zPW x b tb (zTp tb n y v) ++ zTW x t U lk) H locs := hw
    refine lv_if_eq (tgt := 81) hx hb dX4_readItem_53 (by decide) (fun c53 => ?_) (fun c53 => absurd (by decide) c53)
    refine lv_aload_n hx hb dX4_readItem_81 rfl (lv_at hl 1 rfl) ?_
    refine zldS hx hb hE hw hown 15 (by decide) rfl rfl dX4_readItem_82 ?_
    refine zcVmi (r := 1) (C1 := []) (C2 := (zTW x t U lk)) hx hb hml hown hts hl.1 hK hE hA lkX4_46 (c_X2_pass_t x b tb n y v hn hy 15 (by decide) hm1) ⟨Nat.le_of_ble_eq_true rfl, Nat.le_of_ble_eq_true rfl⟩ ⟨Nat.zero_le _, Nat.zero_le _⟩ hw 0 1 rfl rfl rfl rfl (Nat.le_of_ble_eq_true rfl) dX4_readItem_84 (fun H locs hw => ?_)
    have hw : zHw x A s.heap (zPW x b tb (zTp tb n (zNx tb n y) v) ++ zTW x t U lk) H locs := hw
    refine lv_if_eq (tgt := 114) hx hb dX4_readItem_87 (by decide) (fun c87 => absurd c87 (by decide)) (fun c87 => ?_)
    rcases hq : zNu tb n (zNx tb n y) 6 with _ | z
    · refine lv_aload_n hx hb dX4_readItem_90 rfl (lv_at hl 2 rfl) ?_
      refine lv_aload_n hx hb dX4_readItem_91 rfl (lv_at hl 1 rfl) ?_
      refine lv_bipush (v := 6) hx hb dX4_readItem_92 (by decide) ?_
      refine zcVmi (r := (-1)) (C1 := []) (C2 := (zTW x t U lk)) hx hb hml hown hts hl.1 hK hE hA lkX4_54 (c_X2_passNumber_n x b tb n (zNx tb n y) v hn (zNx_le hy) 6 (by decide) hq) ⟨Nat.le_of_ble_eq_true rfl, Nat.le_of_ble_eq_true rfl⟩ ⟨Nat.zero_le _, Nat.zero_le _⟩ hw 0 1 rfl rfl rfl rfl (Nat.le_of_ble_eq_true rfl) dX4_readItem_94 (fun H locs hw => ?_)
      have hw : zHw x A s.heap (zPW x b tb (zTp tb n (zNx tb n y) v) ++ zTW x t U lk) H locs := hw
      refine pfX4_64 hx hb hown hts hK hw 2 rfl (Nat.le_of_ble_eq_true rfl) dX4_readItem_97 (fun H locs hw => ?_)
      have hw : zHw x A s.heap (zPW x b tb (zTp tb n (zNx tb n y) v) ++ zTW x t (zU U 0 4 (-1)) lk) H locs := hw
      refine lv_aload_n hx hb dX4_readItem_100 rfl (lv_at hl 2 rfl) ?_
      refine gfX4_64 hx hb hown hts hK hw 2 rfl rfl dX4_readItem_101 ?_
      refine W.eq (g2 := F0 m 104 ls [.int (-1)]) (by rfl) ?_
      refine lv_iconst (v := (-1)) hx hb dX4_readItem_104 (by decide) ?_
      refine lv_icmp_eq (tgt := 112) hx hb dX4_readItem_105 (by decide) (fun c105 => ?_) (fun c105 => absurd (by decide) c105)
      refine lv_iconst (v := 0) hx hb dX4_readItem_112 (by decide) ?_
      exact zFG.zret hx hb hr hlocks hQ hw (zPT_fs _ _ _ _ _ _) dX4_readItem_113 (by decide) (zPC.i (show zIt tb n y U = _ from (if_neg (by rw [hki]; decide)).trans ((if_neg hs).trans ((if_neg hb1).trans ((if_pos hm1).trans (zFg_0 hq))))))
    · have hzm := zNu_le hq
      refine lv_aload_n hx hb dX4_readItem_90 rfl (lv_at hl 2 rfl) ?_
      refine lv_aload_n hx hb dX4_readItem_91 rfl (lv_at hl 1 rfl) ?_
      refine lv_bipush (v := 6) hx hb dX4_readItem_92 (by decide) ?_
      refine zcVmi (r := nI z) (C1 := []) (C2 := (zTW x t U lk)) hx hb hml hown hts hl.1 hK hE hA lkX4_54 (c_X2_passNumber_s x b tb n (zNx tb n y) v hn (zNx_le hy) 6 z (by decide) hq) ⟨Nat.le_of_ble_eq_true rfl, Nat.le_of_ble_eq_true rfl⟩ ⟨Nat.zero_le _, Nat.zero_le _⟩ hw 0 1 rfl rfl rfl rfl (Nat.le_of_ble_eq_true rfl) dX4_readItem_94 (fun H locs hw => ?_)
      have hw : zHw x A s.heap (zPW x b tb (zTp tb n (zNx tb n (zNx tb n y)) (nI z)) ++ zTW x t U lk) H locs := hw
      refine pfX4_64 hx hb hown hts hK hw 2 rfl (Nat.le_of_ble_eq_true rfl) dX4_readItem_97 (fun H locs hw => ?_)
      have hw : zHw x A s.heap (zPW x b tb (zTp tb n (zNx tb n (zNx tb n y)) (nI z)) ++ zTW x t (zU U 0 4 (nI z)) lk) H locs := hw
      refine lv_aload_n hx hb dX4_readItem_100 rfl (lv_at hl 2 rfl) ?_
      refine gfX4_64 hx hb hown hts hK hw 2 rfl rfl dX4_readItem_101 ?_
      refine W.eq (g2 := F0 m 104 ls [.int (nI z)]) (by rfl) ?_
      refine lv_iconst (v := (-1)) hx hb dX4_readItem_104 (by decide) ?_
      refine lv_icmp_eq (tgt := 112) hx hb dX4_readItem_105 (by decide) (fun c105 => absurd c105 (zne1 (by omega))) (fun c105 => ?_)
      refine lv_iconst (v := 1) hx hb dX4_readItem_108 (by decide) ?_
      refine lv_goto (tgt := 113) hx hb dX4_readItem_109 (by decide) ?_
      exact zFG.zret hx hb hr hlocks hQ hw (zPT_fs _ _ _ _ _ _) dX4_readItem_113 (by decide) (zPC.o (show zIt tb n y U = _ from (if_neg (by rw [hki]; decide)).trans ((if_neg hs).trans ((if_neg hb1).trans ((if_pos hm1).trans (zFg_1 hq))))))
  · refine lv_istore_n (lv' := [(2, .int 0), (0, .ref (b 1)), (1, .ref (t 0))]) hx hb dX4_readItem_1 rfl hl (by decide) rfl (fun ls hl => ?_)
    refine lv_iload_n hx hb dX4_readItem_2 rfl (lv_at hl 0 rfl) ?_
    refine lv_bipush (v := 6) hx hb dX4_readItem_3 (by decide) ?_
    refine lv_icmp_ge (tgt := 32) hx hb dX4_readItem_5 (by decide) (fun c5 => absurd c5 (by decide)) (fun c5 => ?_)
    refine lv_aload_n hx hb dX4_readItem_8 rfl (lv_at hl 1 rfl) ?_
    refine lv_iload_n hx hb dX4_readItem_9 rfl (lv_at hl 0 rfl) ?_
    refine zcSwa hx hb hml hown hts hl.1 hK hE hA lkX4_30 (c_X0_nameOf_0 x (zPW x b tb (zTp tb n y v) ++ zTW x t U lk)) ⟨Nat.le_of_ble_eq_true rfl, Nat.le_of_ble_eq_true rfl⟩ ⟨Nat.zero_le _, Nat.zero_le _⟩ hw rfl rfl (Nat.le_of_ble_eq_true rfl) dX4_readItem_10 (fun H locs hw => ?_)
    have hw : zHw x A s.heap (zPW x b tb (zTp tb n y v) ++ zTW x t U lk) H locs := hw
    refine zcVmi (r := zb (zIs tb n y (zNm 0))) (C1 := []) (C2 := (zTW x t U lk)) hx hb hml hown hts hl.1 hK hE hA lkX4_36 (c_X2_isAt x b tb n y v hn hy 0 (by decide)) ⟨Nat.le_of_ble_eq_true rfl, Nat.le_of_ble_eq_true rfl⟩ ⟨Nat.zero_le _, Nat.zero_le _⟩ hw 0 1 rfl rfl rfl rfl (Nat.le_of_ble_eq_true rfl) dX4_readItem_13 (fun H locs hw => ?_)
    have hw : zHw x A s.heap (zPW x b tb (zTp tb n y v) ++ zTW x t U lk) H locs := hw
    refine lv_if_eq (tgt := 26) hx hb dX4_readItem_16 (by decide) (fun c16 => ?_) (fun c16 => absurd (zb_0.mpr m0) c16)
    refine lv_iinc (v := 1) (lv' := [(2, .int 1), (0, .ref (b 1)), (1, .ref (t 0))]) hx hb dX4_readItem_26 hl (k := 0) rfl (by decide) (by decide) rfl (fun ls hl => ?_)
    refine lv_goto (tgt := 2) hx hb dX4_readItem_29 (by decide) ?_
    refine lv_iload_n hx hb dX4_readItem_2 rfl (lv_at hl 0 rfl) ?_
    refine lv_bipush (v := 6) hx hb dX4_readItem_3 (by decide) ?_
    refine lv_icmp_ge (tgt := 32) hx hb dX4_readItem_5 (by decide) (fun c5 => absurd c5 (by decide)) (fun c5 => ?_)
    refine lv_aload_n hx hb dX4_readItem_8 rfl (lv_at hl 1 rfl) ?_
    refine lv_iload_n hx hb dX4_readItem_9 rfl (lv_at hl 0 rfl) ?_
    refine zcSwa hx hb hml hown hts hl.1 hK hE hA lkX4_30 (c_X0_nameOf_1 x (zPW x b tb (zTp tb n y v) ++ zTW x t U lk)) ⟨Nat.le_of_ble_eq_true rfl, Nat.le_of_ble_eq_true rfl⟩ ⟨Nat.zero_le _, Nat.zero_le _⟩ hw rfl rfl (Nat.le_of_ble_eq_true rfl) dX4_readItem_10 (fun H locs hw => ?_)
    have hw : zHw x A s.heap (zPW x b tb (zTp tb n y v) ++ zTW x t U lk) H locs := hw
    refine zcVmi (r := zb (zIs tb n y (zNm 1))) (C1 := []) (C2 := (zTW x t U lk)) hx hb hml hown hts hl.1 hK hE hA lkX4_36 (c_X2_isAt x b tb n y v hn hy 1 (by decide)) ⟨Nat.le_of_ble_eq_true rfl, Nat.le_of_ble_eq_true rfl⟩ ⟨Nat.zero_le _, Nat.zero_le _⟩ hw 0 1 rfl rfl rfl rfl (Nat.le_of_ble_eq_true rfl) dX4_readItem_13 (fun H locs hw => ?_)
    have hw : zHw x A s.heap (zPW x b tb (zTp tb n y v) ++ zTW x t U lk) H locs := hw
    refine lv_if_eq (tgt := 26) hx hb dX4_readItem_16 (by decide) (fun c16 => ?_) (fun c16 => absurd (zb_0.mpr m1) c16)
    refine lv_iinc (v := 2) (lv' := [(2, .int 2), (0, .ref (b 1)), (1, .ref (t 0))]) hx hb dX4_readItem_26 hl (k := 0) rfl (by decide) (by decide) rfl (fun ls hl => ?_)
    refine lv_goto (tgt := 2) hx hb dX4_readItem_29 (by decide) ?_
    refine lv_iload_n hx hb dX4_readItem_2 rfl (lv_at hl 0 rfl) ?_
    refine lv_bipush (v := 6) hx hb dX4_readItem_3 (by decide) ?_
    refine lv_icmp_ge (tgt := 32) hx hb dX4_readItem_5 (by decide) (fun c5 => absurd c5 (by decide)) (fun c5 => ?_)
    refine lv_aload_n hx hb dX4_readItem_8 rfl (lv_at hl 1 rfl) ?_
    refine lv_iload_n hx hb dX4_readItem_9 rfl (lv_at hl 0 rfl) ?_
    refine zcSwa hx hb hml hown hts hl.1 hK hE hA lkX4_30 (c_X0_nameOf_2 x (zPW x b tb (zTp tb n y v) ++ zTW x t U lk)) ⟨Nat.le_of_ble_eq_true rfl, Nat.le_of_ble_eq_true rfl⟩ ⟨Nat.zero_le _, Nat.zero_le _⟩ hw rfl rfl (Nat.le_of_ble_eq_true rfl) dX4_readItem_10 (fun H locs hw => ?_)
    have hw : zHw x A s.heap (zPW x b tb (zTp tb n y v) ++ zTW x t U lk) H locs := hw
    refine zcVmi (r := zb (zIs tb n y (zNm 2))) (C1 := []) (C2 := (zTW x t U lk)) hx hb hml hown hts hl.1 hK hE hA lkX4_36 (c_X2_isAt x b tb n y v hn hy 2 (by decide)) ⟨Nat.le_of_ble_eq_true rfl, Nat.le_of_ble_eq_true rfl⟩ ⟨Nat.zero_le _, Nat.zero_le _⟩ hw 0 1 rfl rfl rfl rfl (Nat.le_of_ble_eq_true rfl) dX4_readItem_13 (fun H locs hw => ?_)
    have hw : zHw x A s.heap (zPW x b tb (zTp tb n y v) ++ zTW x t U lk) H locs := hw
    refine lv_if_eq (tgt := 26) hx hb dX4_readItem_16 (by decide) (fun c16 => ?_) (fun c16 => absurd (zb_0.mpr m2) c16)
    refine lv_iinc (v := 3) (lv' := [(2, .int 3), (0, .ref (b 1)), (1, .ref (t 0))]) hx hb dX4_readItem_26 hl (k := 0) rfl (by decide) (by decide) rfl (fun ls hl => ?_)
    refine lv_goto (tgt := 2) hx hb dX4_readItem_29 (by decide) ?_
    refine lv_iload_n hx hb dX4_readItem_2 rfl (lv_at hl 0 rfl) ?_
    refine lv_bipush (v := 6) hx hb dX4_readItem_3 (by decide) ?_
    refine lv_icmp_ge (tgt := 32) hx hb dX4_readItem_5 (by decide) (fun c5 => absurd c5 (by decide)) (fun c5 => ?_)
    refine lv_aload_n hx hb dX4_readItem_8 rfl (lv_at hl 1 rfl) ?_
    refine lv_iload_n hx hb dX4_readItem_9 rfl (lv_at hl 0 rfl) ?_
    refine zcSwa hx hb hml hown hts hl.1 hK hE hA lkX4_30 (c_X0_nameOf_3 x (zPW x b tb (zTp tb n y v) ++ zTW x t U lk)) ⟨Nat.le_of_ble_eq_true rfl, Nat.le_of_ble_eq_true rfl⟩ ⟨Nat.zero_le _, Nat.zero_le _⟩ hw rfl rfl (Nat.le_of_ble_eq_true rfl) dX4_readItem_10 (fun H locs hw => ?_)
    have hw : zHw x A s.heap (zPW x b tb (zTp tb n y v) ++ zTW x t U lk) H locs := hw
    refine zcVmi (r := zb (zIs tb n y (zNm 3))) (C1 := []) (C2 := (zTW x t U lk)) hx hb hml hown hts hl.1 hK hE hA lkX4_36 (c_X2_isAt x b tb n y v hn hy 3 (by decide)) ⟨Nat.le_of_ble_eq_true rfl, Nat.le_of_ble_eq_true rfl⟩ ⟨Nat.zero_le _, Nat.zero_le _⟩ hw 0 1 rfl rfl rfl rfl (Nat.le_of_ble_eq_true rfl) dX4_readItem_13 (fun H locs hw => ?_)
    have hw : zHw x A s.heap (zPW x b tb (zTp tb n y v) ++ zTW x t U lk) H locs := hw
    refine lv_if_eq (tgt := 26) hx hb dX4_readItem_16 (by decide) (fun c16 => ?_) (fun c16 => absurd (zb_0.mpr m3) c16)
    refine lv_iinc (v := 4) (lv' := [(2, .int 4), (0, .ref (b 1)), (1, .ref (t 0))]) hx hb dX4_readItem_26 hl (k := 0) rfl (by decide) (by decide) rfl (fun ls hl => ?_)
    refine lv_goto (tgt := 2) hx hb dX4_readItem_29 (by decide) ?_
    refine lv_iload_n hx hb dX4_readItem_2 rfl (lv_at hl 0 rfl) ?_
    refine lv_bipush (v := 6) hx hb dX4_readItem_3 (by decide) ?_
    refine lv_icmp_ge (tgt := 32) hx hb dX4_readItem_5 (by decide) (fun c5 => absurd c5 (by decide)) (fun c5 => ?_)
    refine lv_aload_n hx hb dX4_readItem_8 rfl (lv_at hl 1 rfl) ?_
    refine lv_iload_n hx hb dX4_readItem_9 rfl (lv_at hl 0 rfl) ?_
    refine zcSwa hx hb hml hown hts hl.1 hK hE hA lkX4_30 (c_X0_nameOf_4 x (zPW x b tb (zTp tb n y v) ++ zTW x t U lk)) ⟨Nat.le_of_ble_eq_true rfl, Nat.le_of_ble_eq_true rfl⟩ ⟨Nat.zero_le _, Nat.zero_le _⟩ hw rfl rfl (Nat.le_of_ble_eq_true rfl) dX4_readItem_10 (fun H locs hw => ?_)
    have hw : zHw x A s.heap (zPW x b tb (zTp tb n y v) ++ zTW x t U lk) H locs := hw
    refine zcVmi (r := zb (zIs tb n y (zNm 4))) (C1 := []) (C2 := (zTW x t U lk)) hx hb hml hown hts hl.1 hK hE hA lkX4_36 (c_X2_isAt x b tb n y v hn hy 4 (by decide)) ⟨Nat.le_of_ble_eq_true rfl, Nat.le_of_ble_eq_true rfl⟩ ⟨Nat.zero_le _, Nat.zero_le _⟩ hw 0 1 rfl rfl rfl rfl (Nat.le_of_ble_eq_true rfl) dX4_readItem_13 (fun H locs hw => ?_)
    have hw : zHw x A s.heap (zPW x b tb (zTp tb n y v) ++ zTW x t U lk) H locs := hw
    refine lv_if_eq (tgt := 26) hx hb dX4_readItem_16 (by decide) (fun c16 => ?_) (fun c16 => absurd (zb_0.mpr m4) c16)
    refine lv_iinc (v := 5) (lv' := [(2, .int 5), (0, .ref (b 1)), (1, .ref (t 0))]) hx hb dX4_readItem_26 hl (k := 0) rfl (by decide) (by decide) rfl (fun ls hl => ?_)
    refine lv_goto (tgt := 2) hx hb dX4_readItem_29 (by decide) ?_
    refine lv_iload_n hx hb dX4_readItem_2 rfl (lv_at hl 0 rfl) ?_
    refine lv_bipush (v := 6) hx hb dX4_readItem_3 (by decide) ?_
    refine lv_icmp_ge (tgt := 32) hx hb dX4_readItem_5 (by decide) (fun c5 => absurd c5 (by decide)) (fun c5 => ?_)
    refine lv_aload_n hx hb dX4_readItem_8 rfl (lv_at hl 1 rfl) ?_
    refine lv_iload_n hx hb dX4_readItem_9 rfl (lv_at hl 0 rfl) ?_
    refine zcSwa hx hb hml hown hts hl.1 hK hE hA lkX4_30 (c_X0_nameOf_5 x (zPW x b tb (zTp tb n y v) ++ zTW x t U lk)) ⟨Nat.le_of_ble_eq_true rfl, Nat.le_of_ble_eq_true rfl⟩ ⟨Nat.zero_le _, Nat.zero_le _⟩ hw rfl rfl (Nat.le_of_ble_eq_true rfl) dX4_readItem_10 (fun H locs hw => ?_)
    have hw : zHw x A s.heap (zPW x b tb (zTp tb n y v) ++ zTW x t U lk) H locs := hw
    refine zcVmi (r := zb (zIs tb n y (zNm 5))) (C1 := []) (C2 := (zTW x t U lk)) hx hb hml hown hts hl.1 hK hE hA lkX4_36 (c_X2_isAt x b tb n y v hn hy 5 (by decide)) ⟨Nat.le_of_ble_eq_true rfl, Nat.le_of_ble_eq_true rfl⟩ ⟨Nat.zero_le _, Nat.zero_le _⟩ hw 0 1 rfl rfl rfl rfl (Nat.le_of_ble_eq_true rfl) dX4_readItem_13 (fun H locs hw => ?_)
    have hw : zHw x A s.heap (zPW x b tb (zTp tb n y v) ++ zTW x t U lk) H locs := hw
    refine lv_if_eq (tgt := 26) hx hb dX4_readItem_16 (by decide) (fun c16 => ?_) (fun c16 => absurd (zb_0.mpr m5) c16)
    refine lv_iinc (v := 6) (lv' := [(2, .int 6), (0, .ref (b 1)), (1, .ref (t 0))]) hx hb dX4_readItem_26 hl (k := 0) rfl (by decide) (by decide) rfl (fun ls hl => ?_)
    refine lv_goto (tgt := 2) hx hb dX4_readItem_29 (by decide) ?_
    refine lv_iload_n hx hb dX4_readItem_2 rfl (lv_at hl 0 rfl) ?_
    refine lv_bipush (v := 6) hx hb dX4_readItem_3 (by decide) ?_
    refine lv_icmp_ge (tgt := 32) hx hb dX4_readItem_5 (by decide) (fun c5 => ?_) (fun c5 => absurd (by decide) c5)
    refine lv_aload_n hx hb dX4_readItem_32 rfl (lv_at hl 1 rfl) ?_
    refine zldS hx hb hE hw hown 11 (by decide) rfl rfl dX4_readItem_33 ?_
    refine zcVmi (r := 0) (C1 := []) (C2 := (zTW x t U lk)) hx hb hml hown hts hl.1 hK hE hA lkX4_46 (c_X2_pass_f x b tb n y v hn hy 11 (by decide) hs) ⟨Nat.le_of_ble_eq_true rfl, Nat.le_of_ble_eq_true rfl⟩ ⟨Nat.zero_le _, Nat.zero_le _⟩ hw 0 1 rfl rfl rfl rfl (Nat.le_of_ble_eq_true rfl) dX4_readItem_35 (fun H locs hw => ?_)
    have hw : zHw x A s.heap (zPW x b tb (zTp tb n y v) ++ zTW x t U lk) H locs := hw
    refine lv_if_eq (tgt := 47) hx hb dX4_readItem_38 (by decide) (fun c38 => ?_) (fun c38 => absurd (by decide) c38)
    refine lv_aload_n hx hb dX4_readItem_47 rfl (lv_at hl 1 rfl) ?_
    refine zldS hx hb hE hw hown 14 (by decide) rfl rfl dX4_readItem_48 ?_
    refine zcVmi (r := 0) (C1 := []) (C2 := (zTW x t U lk)) hx hb hml hown hts hl.1 hK hE hA lkX4_46 (c_X2_pass_f x b tb n y v hn hy 14 (by decide) hb1) ⟨Nat.le_of_ble_eq_true rfl, Nat.le_of_ble_eq_true rfl⟩ ⟨Nat.zero_le _, Nat.zero_le _⟩ hw 0 1 rfl rfl rfl rfl (Nat.le_of_ble_eq_true rfl) dX4_readItem_50 (fun H locs hw => ?_)
    have hw : zHw x A s.heap (zPW x b tb (zTp tb n y v) ++ zTW x t U lk) H locs := hw
    refine lv_if_eq (tgt := 81) hx hb dX4_readItem_53 (by decide) (fun c53 => ?_) (fun c53 => absurd (by decide) c53)
    refine lv_aload_n hx hb dX4_readItem_81 rfl (lv_at hl 1 rfl) ?_
    refine zldS hx hb hE hw hown 15 (by decide) rfl rfl dX4_readItem_82 ?_
    refine zcVmi (r := 0) (C1 := []) (C2 := (zTW x t U lk)) hx hb hml hown hts hl.1 hK hE hA lkX4_46 (c_X2_pass_f x b tb n y v hn hy 15 (by decide) hm1) ⟨Nat.le_of_ble_eq_true rfl, Nat.le_of_ble_eq_true rfl⟩ ⟨Nat.zero_le _, Nat.zero_le _⟩ hw 0 1 rfl rfl rfl rfl (Nat.le_of_ble_eq_true rfl) dX4_readItem_84 (fun H locs hw => ?_)
    have hw : zHw x A s.heap (zPW x b tb (zTp tb n y v) ++ zTW x t U lk) H locs := hw
    refine lv_if_eq (tgt := 114) hx hb dX4_readItem_87 (by decide) (fun c87 => ?_) (fun c87 => absurd (by decide) c87)
    refine lv_iconst (v := 0) hx hb dX4_readItem_114 (by decide) ?_
    exact zFG.zret hx hb hr hlocks hQ hw (zPT_fs _ _ _ _ _ _) dX4_readItem_115 (by decide) (zPC.i (show zIt tb n y U = .inl y from (if_neg (by rw [hki]; decide)).trans ((if_neg hs).trans ((if_neg hb1).trans (if_neg hm1)))))
