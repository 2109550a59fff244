/-! WHAT THE KINDS DIFFER IN -/
abbrev zFr (w : Int32) : Prop := w < 10 ∨ 46 ≤ w
def zPl (w t : Int32) : Int32 := 1 + t / 10 + (if zFr w then 2 else 0)
def zGr (k z w t : Int32) : Int32 := if k = 1 then zPl w t + z / 20 else if k = 2 then 1 else if k = 3 then zPl w t + (if w - w / 9 * 9 = 0 then 3 else 0) else if k = 4 then zPl w t + z / 20 - 1 else if k = 5 then (if zFr w then 2 else 1) else zPl w t
def zHp (f : Int32) : Int32 := if f = 2 then 40 else 3
def zHd (k f : Int32) : Int32 := if k = 1 then zHp f - 1 else if k = 2 then zHp f + 5 else if k = 3 then zHp f / 2 else if k = 4 then zHp f - 1 else if k = 5 then (zHp f + 5) * 2 else zHp f
def zCp (k z : Int32) : Int32 := if k = 1 then 5 + z / 10 + 3 else if k = 2 then 2 else if k = 4 then 5 + z / 10 + 1 else if k = 5 then 3 else 5 + z / 10
def zPr (k z how : Int32) : Int32 := if how = 0 then zCp k z else 11 * zCp k z
abbrev zUn (k a : Int32) : Prop := a = 0 ∨ k = a ∨ (a = 1 ∧ k = 4) ∨ (a = 2 ∧ k = 5)
theorem zPl_pos {w t : Int32} (ht : zIn t 99) : ∃ n : Nat, 1 ≤ n ∧ n ≤ 12 ∧ zPl w t = nI n := by
  obtain ⟨n, hn, rfl⟩ := ht
  have e : nI n / 10 = nI (n / 10) := pk_div (a := n) (d := 10) (by omega) (by omega) (by omega)
  unfold zPl
  rw [e]
  by_cases h : zFr w
  · rw [if_pos h]; exact ⟨1 + n / 10 + 2, by omega, by omega, by rw [show (1 : Int32) = nI 1 from rfl, show (2 : Int32) = nI 2 from rfl, nI_add, nI_add]⟩
  · rw [if_neg h]; exact ⟨1 + n / 10 + 0, by omega, by omega, by rw [show (1 : Int32) = nI 1 from rfl, show (0 : Int32) = nI 0 from rfl, nI_add, nI_add]⟩
theorem zBa_pos {w t z : Int32} (ht : zIn t 99) (hz : zIn z 99) : ∃ n : Nat, 1 ≤ n ∧ n ≤ 16 ∧ zPl w t + z / 20 = nI n := by
  obtain ⟨n, h1, h2, e⟩ := zPl_pos (w := w) ht
  obtain ⟨k, hk, rfl⟩ := hz
  have e2 : nI k / 20 = nI (k / 20) := pk_div (a := k) (d := 20) (by omega) (by omega) (by omega)
  exact ⟨n + k / 20, by omega, by omega, by rw [e, e2, nI_add]⟩
theorem zDu {w t z : Int32} (ht : zIn t 99) (hz : zIn z 99) : (if (0 : Int32) < zPl w t + z / 20 - 1 then zPl w t + z / 20 - 1 else 0) = zPl w t + z / 20 - 1 := by
  obtain ⟨n, h1, h2, e⟩ := zBa_pos (w := w) ht hz
  obtain ⟨k, rfl⟩ : ∃ k, n = k + 1 := ⟨n - 1, by omega⟩
  rw [e, nI_pred]
  by_cases h : (0 : Int32) < nI k
  · rw [if_pos h]
  · rw [if_neg h]
    rcases Nat.eq_zero_or_pos k with rfl | hp
    · rfl
    · exact absurd (nI_lt (a := 0) (b := k) hp (by omega)) h
theorem zsi {y z : Int32} (h : y = z) : some (Value.int y) = some (Value.int z) := by rw [h]
theorem zsl {y z : Int64} (h : y = z) : some (Value.long y) = some (Value.long z) := by rw [h]
