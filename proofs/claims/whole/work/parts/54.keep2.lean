/-! WHAT CALLS KEEP: sheets -/
theorem zLy_inv {f : Nat → Int64} {S : zT} (hI : zInv S) : ∀ k, zInv (zLy f S k).1
  | 0 => hI
  | k + 1 => by
    have ih := zLy_inv (f := f) hI k
    unfold zLy
    by_cases c : 0 ≤ f k ∧ f k ≤ 99
    · rw [if_pos c]
      obtain ⟨j, hj, e⟩ := pk_lOf (Int64.not_lt.mpr c.1)
      have h9 : j ≤ 99 := by
        rw [e] at c
        exact (pk_lLE (a := j) (b := 99) hj (by decide)).mp c.2
      refine ih.u (Or.inr ⟨j, h9, ?_⟩)
      rw [e]; exact lN_i j
    · rw [if_neg c]; exact ih
theorem zm_lays_inv {S : zT} (hI : zInv S) (bo so : Nat → Int32) (nn : zNN) (fd : Nat → Int32) (y : Int32) : zInv (zm_lays bo so nn S fd y).2.1 := by
  unfold zm_lays
  by_cases c : z4 y
  · rw [if_pos c]
    by_cases d : bo (zc y) = 0
    · rw [if_pos d]; exact hI
    · rw [if_neg d]; exact zLy_inv hI _
  · rw [if_neg c]; exact hI
theorem zm_sheet_si {bo so : Nat → Int32} (hS : zSI bo so) (nn : zNN) (fd : Nat → Int32) (y bi n : Int32) : zSI (zm_sheet bo so nn fd y bi n).2.1 (zm_sheet bo so nn fd y bi n).2.2.1 := by
  unfold zm_sheet
  by_cases c : z4 y ∧ zbt bi
  · rw [if_pos c]
    by_cases d : n < 0
    · rw [if_pos d]; exact hS
    · rw [if_neg d]
      by_cases e : 40 < n
      · rw [if_pos e]; exact hS
      · rw [if_neg e]
        obtain ⟨j, hj, rfl⟩ := nI_of2 (M := 40) (n := 40) (by decide) d (Int32.not_lt.mp e)
        intro i hi
        by_cases h : i = zc y
        · subst h
          refine ⟨?_, ?_⟩
          · show zbt (upd bo (zc y) bi (zc y)); rw [pk_us]; exact c.2
          · show ∃ k : Nat, k ≤ 40 ∧ upd so (zc y) _ (zc y) = nI k
            rw [pk_us]
            by_cases z : bi = 0
            · exact ⟨0, by decide, by rw [if_pos z]; rfl⟩
            · exact ⟨j, hj, by rw [if_neg z]⟩
        · refine ⟨?_, ?_⟩
          · show zbt (upd bo (zc y) bi i); rw [pk_un h]; exact (hS i hi).1
          · show ∃ k : Nat, k ≤ 40 ∧ upd so (zc y) _ i = nI k
            rw [pk_un h]; exact (hS i hi).2
  · rw [if_neg c]; exact hS
