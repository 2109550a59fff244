/-! WHAT CALLS KEEP -/
theorem zm_town_inv {S : zT} (hI : zInv S) (fd : Nat → Int32) (w v : Int32) : zInv (zm_town S fd w v).2.1 := by
  unfold zm_town
  by_cases c : zBw w 0 3 ∧ zBw v 0 (ztopT w)
  · rw [if_pos c]
    obtain ⟨c1, c2⟩ := c
    obtain ⟨j, hj, rfl⟩ := zBw_nat (hi := 3) c1 (by decide) (by decide)
    show zInv (zU S 0 (2 + zc (nI j)) v)
    rw [zc_nI (by omega)]
    have hj4 : j = 0 ∨ j = 1 ∨ j = 2 ∨ j = 3 := by omega
    rcases hj4 with rfl | rfl | rfl | rfl
    · obtain ⟨k, hk, rfl⟩ := zBw_nat (hi := 99999) c2 (by decide) (by decide)
      exact hI.u (Or.inr ⟨k, hk, rfl⟩)
    · obtain ⟨k, hk, rfl⟩ := zBw_nat (hi := 99999) c2 (by decide) (by decide)
      exact hI.u (Or.inr ⟨k, hk, rfl⟩)
    · obtain ⟨k, hk, rfl⟩ := zBw_nat (hi := 6) c2 (by decide) (by decide)
      exact hI.u (Or.inr ⟨k, hk, rfl⟩)
    · obtain ⟨k, hk, rfl⟩ := zBw_nat (hi := 1) c2 (by decide) (by decide)
      exact hI.u (Or.inr ⟨k, hk, rfl⟩)
  · rw [if_neg c]; exact hI
theorem zm_street_inv {S : zT} (hI : zInv S) (fd : Nat → Int32) (r w v : Int32) : zInv (zm_street S fd r w v).2.1 := by
  unfold zm_street
  by_cases c : z6 r ∧ zBw w 0 1 ∧ zBw v 0 (if w = 0 then 99 else 1)
  · rw [if_pos c]
    obtain ⟨c0, c1, c2⟩ := c
    obtain ⟨j, hj, rfl⟩ := zBw_nat (hi := 1) c1 (by decide) (by decide)
    show zInv (zU S (1 + zc (nI j)) (zc r) v)
    rw [zc_nI (by omega)]
    have hj2 : j = 0 ∨ j = 1 := by omega
    rcases hj2 with rfl | rfl
    · obtain ⟨k, hk, rfl⟩ := zBw_nat (hi := 99) c2 (by decide) (by decide)
      exact hI.u (Or.inr ⟨k, hk, rfl⟩)
    · obtain ⟨k, hk, rfl⟩ := zBw_nat (hi := 1) c2 (by decide) (by decide)
      exact hI.u (Or.inr ⟨k, hk, rfl⟩)
  · rw [if_neg c]; exact hI
theorem zm_weeks_inv {S : zT} (hI : zInv S) (fd : Nat → Int32) (n : Int32) : zInv (zm_weeks S fd n).2.1 := by
  unfold zm_weeks
  by_cases c : zBw n 1 60
  · rw [if_pos c]
    by_cases d : 9999 < S 0 1 + n
    · rw [if_pos d]; exact hI
    · rw [if_neg d]; exact (zGo_ok _ hI).1
  · rw [if_neg c]; exact hI
theorem zm_fill_inv {S : zT} (hI : zInv S) (fd : Nat → Int32) (h w : Int32) : zInv (zm_fill S fd h w).2.1 := by
  unfold zm_fill
  by_cases c : zH S h ∧ zBw w 0 1
  · rw [if_pos c]
    by_cases d : S 6 (zc h) = 0 ∧ zPs S (zc h) w ≤ S 0 2
    · rw [if_pos d]
      obtain ⟨j, h8, hN, rfl⟩ := zH_nat hI c.1
      rw [zc_nI (by omega)] at d ⊢
      exact zFi_inv hI h8 d.2
    · rw [if_neg d]; exact hI
  · rw [if_neg c]; exact hI
theorem zm_turn_inv {S : zT} (hI : zInv S) (fd : Nat → Int32) (h k : Int32) : zInv (zm_turn S fd h k).2.1 := by
  unfold zm_turn
  by_cases c : zH S h ∧ z6 k
  · rw [if_pos c]
    obtain ⟨j, hj, rfl⟩ := nI_of2 (M := 5) (n := 5) (by decide) (Int32.not_lt.mpr c.2.1) (Int32.le_iff_toInt_le.mpr (by have := Int32.lt_iff_toInt_lt.mp c.2.2; have e : (5 : Int32).toInt = 5 := rfl; have e6 : (6 : Int32).toInt = 6 := rfl; omega))
    exact hI.u (Or.inr ⟨j, hj, rfl⟩)
  · rw [if_neg c]; exact hI
theorem zm_hole_inv {S : zT} (hI : zInv S) (fd : Nat → Int32) (k r : Int32) : zInv (zm_hole S fd k r).2.1 := by
  unfold zm_hole
  by_cases c : z6 k ∧ z6 r
  · rw [if_pos c]
    by_cases d : S 0 0 = 8
    · rw [if_pos d]; exact hI
    · rw [if_neg d]
      have up : ∀ z : Int32, z6 z → ∃ j : Nat, j ≤ 5 ∧ z = nI j := fun z hz => nI_of2 (M := 5) (n := 5) (by decide) (Int32.not_lt.mpr hz.1) (Int32.le_iff_toInt_le.mpr (by have := Int32.lt_iff_toInt_lt.mp hz.2; have e : (5 : Int32).toInt = 5 := rfl; have e6 : (6 : Int32).toInt = 6 := rfl; omega))
      obtain ⟨j, hj, rfl⟩ := up k c.1
      obtain ⟨i, hi, rfl⟩ := up r c.2
      have h8 := zN_le hI
      have h0 := zN_0 hI
      have hz8 : zN S < 8 := by
        rcases Nat.lt_or_ge (zN S) 8 with q | q
        · exact q
        · exact absurd (by rw [h0, show zN S = 8 from by omega]; rfl) d
      exact zAd_inv hI hj hi hz8
  · rw [if_neg c]; exact hI
theorem zm_set_inv {S : zT} (hI : zInv S) (fd : Nat → Int32) (h w v : Int32) : zInv (zm_set S fd h w v).2.1 := by
  unfold zm_set
  by_cases c : zH S h ∧ zBw w 1 5 ∧ zBw v 0 (ztopH w)
  · rw [if_pos c]
    obtain ⟨c0, c1, c2⟩ := c
    obtain ⟨j, hj, rfl⟩ := zBw_nat (hi := 5) c1 (by decide) (by decide)
    have hj1 : 1 ≤ j := (nI_leI (a := 1) (by decide) (by omega)).mp c1.1
    show zInv (zU S (3 + zc (nI j)) (zc h) v)
    rw [zc_nI (by omega)]
    have hj5 : j = 1 ∨ j = 2 ∨ j = 3 ∨ j = 4 ∨ j = 5 := by omega
    rcases hj5 with rfl | rfl | rfl | rfl | rfl
    · obtain ⟨k, hk, rfl⟩ := zBw_nat (hi := 5) c2 (by decide) (by decide)
      exact hI.u (Or.inr ⟨k, hk, rfl⟩)
    · obtain ⟨k, hk, rfl⟩ := zBw_nat (hi := 99) c2 (by decide) (by decide)
      exact hI.u (Or.inr ⟨k, hk, rfl⟩)
    · obtain ⟨k, hk, rfl⟩ := zBw_nat (hi := 2) c2 (by decide) (by decide)
      exact hI.u (Or.inr ⟨k, hk, rfl⟩)
    · obtain ⟨k, hk, rfl⟩ := zBw_nat (hi := 999) c2 (by decide) (by decide)
      exact hI.u (Or.inr ⟨k, hk, rfl⟩)
    · obtain ⟨k, hk, rfl⟩ := zBw_nat (hi := 1) c2 (by decide) (by decide)
      exact hI.u (Or.inr ⟨k, hk, rfl⟩)
  · rw [if_neg c]; exact hI
theorem zm_text_inv {B : Nat → Int32} {n : Nat} {S : zT} (hn : n ≤ 120) (hI : zInv S) : zInv (zm_text B n S).2 := by
  unfold zm_text
  rcases zTx_ok (B := B) hn 121 1 (zRu B n 32 32 0) S (zRu_le (Nat.zero_le n)) hI (by decide) (by decide) with ⟨h, -⟩ | ⟨T, h, -, hT⟩
  · rw [h]; exact hI
  · rw [h]; exact hT
