/-! THE CLASS'S TEXT: where its tape stands -/
def zTk (B : Nat → Int32) (n y : Nat) : Int32 := if y < n then (if zLt B n y then 1 else if zDg B n y then 2 else if B y = 59 then 3 else 4) else 0
/-- length, token, start, end, value -/
def zTp (B : Nat → Int32) (n y : Nat) (v : Int32) : Nat → Int32
  | 0 => nI n
  | 1 => zTk B n y
  | 2 => nI y
  | 3 => nI (zEn B n y)
  | _ => if zDg B n y then nI (zVm B y (zEn B n y - y)) else v
theorem zPW5 {x : zX} {b : Nat → Nat} {tb q r : Nat → Int32} (h0 : q 0 = r 0) (h1 : q 1 = r 1) (h2 : q 2 = r 2) (h3 : q 3 = r 3) (h4 : q 4 = r 4) : zPW x b tb q = zPW x b tb r := by
  unfold zPW; rw [h0, h1, h2, h3, h4]
theorem zTk_0 {B : Nat → Int32} {n y : Nat} (h : ¬ y < n) : zTk B n y = 0 := if_neg h
theorem zTk_L {B : Nat → Int32} {n y : Nat} (h : zLt B n y) : zTk B n y = 1 := (if_pos h.1).trans (if_pos h)
theorem zTk_D {B : Nat → Int32} {n y : Nat} (h : zDg B n y) : zTk B n y = 2 := (if_pos h.1).trans ((if_neg (fun d => zLD d h)).trans (if_pos h))
theorem zTk_3 {B : Nat → Int32} {n y : Nat} (h : y < n) (h1 : ¬ zLt B n y) (h2 : ¬ zDg B n y) (h3 : B y = 59) : zTk B n y = 3 := (if_pos h).trans ((if_neg h1).trans ((if_neg h2).trans (if_pos h3)))
theorem zTk_4 {B : Nat → Int32} {n y : Nat} (h : y < n) (h1 : ¬ zLt B n y) (h2 : ¬ zDg B n y) (h3 : ¬ B y = 59) : zTk B n y = 4 := (if_pos h).trans ((if_neg h1).trans ((if_neg h2).trans (if_neg h3)))
theorem zTk_is1 {B : Nat → Int32} {n y : Nat} : zTk B n y = 1 ↔ zLt B n y := by
  constructor
  · intro h
    unfold zTk at h
    by_cases c : y < n
    · rw [if_pos c] at h
      by_cases d : zLt B n y
      · exact d
      · rw [if_neg d] at h
        by_cases e : zDg B n y
        · rw [if_pos e] at h; exact absurd h (by decide)
        · rw [if_neg e] at h
          by_cases f : B y = 59
          · rw [if_pos f] at h; exact absurd h (by decide)
          · rw [if_neg f] at h; exact absurd h (by decide)
    · rw [if_neg c] at h; exact absurd h (by decide)
  · exact zTk_L
theorem zTk_is2 {B : Nat → Int32} {n y : Nat} : zTk B n y = 2 ↔ zDg B n y := by
  constructor
  · intro h
    unfold zTk at h
    by_cases c : y < n
    · rw [if_pos c] at h
      by_cases d : zLt B n y
      · rw [if_pos d] at h; exact absurd h (by decide)
      · rw [if_neg d] at h
        by_cases e : zDg B n y
        · exact e
        · rw [if_neg e] at h
          by_cases f : B y = 59
          · rw [if_pos f] at h; exact absurd h (by decide)
          · rw [if_neg f] at h; exact absurd h (by decide)
    · rw [if_neg c] at h; exact absurd h (by decide)
  · exact zTk_D
theorem zTk_is0 {B : Nat → Int32} {n y : Nat} : zTk B n y = 0 ↔ ¬ y < n := by
  constructor
  · intro h c
    unfold zTk at h
    rw [if_pos c] at h
    by_cases d : zLt B n y
    · rw [if_pos d] at h; exact absurd h (by decide)
    · rw [if_neg d] at h
      by_cases e : zDg B n y
      · rw [if_pos e] at h; exact absurd h (by decide)
      · rw [if_neg e] at h
        by_cases f : B y = 59
        · rw [if_pos f] at h; exact absurd h (by decide)
        · rw [if_neg f] at h; exact absurd h (by decide)
  · exact zTk_0
theorem zL59 {B : Nat → Int32} {n y : Nat} (h : B y = 59) : ¬ zLt B n y ∧ ¬ zDg B n y := by
  constructor
  · intro d
    have := d.2.1
    rw [h] at this; exact absurd this (by decide)
  · intro d
    have := d.2.2
    rw [h] at this; exact absurd this (by decide)
theorem zTk_is3 {B : Nat → Int32} {n y : Nat} : zTk B n y = 3 ↔ (y < n ∧ B y = 59) := by
  constructor
  · intro h
    unfold zTk at h
    by_cases c : y < n
    · rw [if_pos c] at h
      by_cases d : zLt B n y
      · rw [if_pos d] at h; exact absurd h (by decide)
      · rw [if_neg d] at h
        by_cases e : zDg B n y
        · rw [if_pos e] at h; exact absurd h (by decide)
        · rw [if_neg e] at h
          by_cases f : B y = 59
          · exact ⟨c, f⟩
          · rw [if_neg f] at h; exact absurd h (by decide)
    · rw [if_neg c] at h; exact absurd h (by decide)
  · intro h; exact zTk_3 h.1 (zL59 h.2).1 (zL59 h.2).2 h.2
theorem zVm_t1 {B : Nat → Int32} {y i : Nat} (h : ∀ k, k < i + 1 → 48 ≤ B (y + k) ∧ B (y + k) ≤ 57) (c : ¬ 10000 ≤ nI (zVm B y i)) : nI (zVm B y i) * 10 + B (y + i) - 48 = nI (zVm B y (i + 1)) := by
  obtain ⟨h2, h3⟩ := zdd_ok (h i (by omega))
  have b := zVm_lt B y i (fun k hk => (zdd_ok (h k (by omega))).1)
  have d : ¬ 10000 ≤ zVm B y i := fun d => c (nI_le (a := 10000) d (by omega))
  have e2 : zVm B y (i + 1) = 10 * zVm B y i + zdd (B (y + i)) := if_neg (by omega)
  rw [e2]
  generalize zdd (B (y + i)) = z at h3 h2
  rw [h3]
  show nI _ * nI 10 + nI _ - nI 48 = _
  rw [pk_mul, nI_add, pk_sub (by omega)]
  congr 1; omega
theorem zVm_t2 {B : Nat → Int32} {y i : Nat} (h : ∀ k, k < i + 1 → 48 ≤ B (y + k) ∧ B (y + k) ≤ 57) (c : 10000 ≤ nI (zVm B y i)) : nI (zVm B y i) = nI (zVm B y (i + 1)) := by
  have b := zVm_lt B y i (fun k hk => (zdd_ok (h k (by omega))).1)
  have d : 10000 ≤ zVm B y i := (nI_leI (a := 10000) (b := zVm B y i) (by decide) (by omega)).mp c
  have e2 : zVm B y (i + 1) = zVm B y i := if_pos (by omega)
  rw [e2]
theorem zNu_d {B : Nat → Int32} {n y most z : Nat} (h : zNu B n y most = some z) : zDg B n y := by
  unfold zNu at h
  by_cases c : zDg B n y ∧ zVn B y (zEn B n y - y) ≤ most
  · exact c.1
  · rw [if_neg c] at h; cases h
theorem zNu_v {B : Nat → Int32} {n y most z : Nat} (h : zNu B n y most = some z) : zVn B y (zEn B n y - y) = z := by
  unfold zNu at h
  by_cases c : zDg B n y ∧ zVn B y (zEn B n y - y) ≤ most
  · rw [if_pos c] at h; cases h; rfl
  · rw [if_neg c] at h; cases h
theorem zNu_n {B : Nat → Int32} {n y most : Nat} (h : zNu B n y most = none) (hd : zDg B n y) : ¬ zVn B y (zEn B n y - y) ≤ most := by
  intro c
  unfold zNu at h
  rw [if_pos ⟨hd, c⟩] at h; cases h
theorem zNu_v' {B : Nat → Int32} {n y most z : Nat} (h : zNu B n y most = some z) (hm : most ≤ 9999) : zVm B y (zEn B n y - y) = z := by
  have a := zNu_v h
  have b := zNu_le h
  rcases zVm_n B y (zEn B n y - y) with ⟨c, d⟩ | ⟨c, d⟩
  · exact c.trans a
  · omega
theorem zNu_n' {B : Nat → Int32} {n y most : Nat} (h : zNu B n y most = none) (hd : zDg B n y) (hm : most ≤ 9999) : ¬ zVm B y (zEn B n y - y) ≤ most := by
  have a := zNu_n h hd
  rcases zVm_n B y (zEn B n y - y) with ⟨c, d⟩ | ⟨c, d⟩ <;> omega
theorem zVm_b {B : Nat → Int32} {n y : Nat} (hd : zDg B n y) : zVm B y (zEn B n y - y) ≤ 99999 :=
  zVm_lt B y _ (fun i hi => (zdd_ok (zEn_inD hd (k := i) (by omega))).1)
