/-! THE REFERENCE'S TEXT: items -/
theorem zwc0 : lN (zNv (zNm 0)) = 277893 := by decide +kernel
theorem zwc1 : lN (zNv (zNm 1)) = 67208 := by decide +kernel
theorem zwc2 : lN (zNv (zNm 2)) = 3736683 := by decide +kernel
theorem zwc3 : lN (zNv (zNm 3)) = 10986964 := by decide +kernel
theorem zwc4 : lN (zNv (zNm 4)) = 152683 := by decide +kernel
theorem zwc5 : lN (zNv (zNm 5)) = 627757 := by decide +kernel
theorem zwc6 : lN (zNv (zNm 6)) = 302 := by decide +kernel
theorem zwc7 : lN (zNv (zNm 7)) = 632645 := by decide +kernel
theorem zwc8 : lN (zNv (zNm 8)) = 114052 := by decide +kernel
theorem zwc9 : lN (zNv (zNm 9)) = 8692 := by decide +kernel
theorem zwc10 : lN (zNv (zNm 10)) = 611783 := by decide +kernel
theorem zwc11 : lN (zNv (zNm 11)) = 659100852 := by decide +kernel
theorem zwc12 : lN (zNv (zNm 12)) = 22080067875 := by decide +kernel
theorem zwc13 : lN (zNv (zNm 13)) = 12468 := by decide +kernel
theorem zwc14 : lN (zNv (zNm 14)) = 89267380 := by decide +kernel
theorem zwc15 : lN (zNv (zNm 15)) = 13486 := by decide +kernel
theorem zWnz {i : Nat} (hi : i < 16) {c : Int64} (hc : lN (zNv (zNm i)) = c) : ¬ (0 : Int64) = c := by
  have h := zNm_ok i hi
  have h1 : 0 < zNv (zNm i) := zWd_pos (B := fun k => (zNm i).getD k 0) (y := 0) _ h.1 (fun k hk => by
    show 97 ≤ (zNm i).getD (0 + k) 0 ∧ (zNm i).getD (0 + k) 0 ≤ 122
    rw [Nat.zero_add]; exact h.2.1 k hk)
  have h2 : zNv (zNm i) ≤ 36028797018963967 := h.2.2
  intro e
  have := (pk_lEQ (a := 0) (b := zNv (zNm i)) (by decide) (by omega)).mp (e.trans hc.symm)
  omega
theorem zupd_self (f : Nat → Int32) (k : Nat) : upd f k (f k) = f := by
  funext i
  unfold upd
  by_cases h : i = k
  · rw [if_pos h, h]
  · rw [if_neg h]
theorem zKi_s {B : Nat → Int32} {n y f k : Nat} (h : ¬ zIs B n y (zNm k)) : zKi B n y (f + 1) k = zKi B n y f (k + 1) := if_neg h
theorem zKi_t {B : Nat → Int32} {n y f k : Nat} (h : zIs B n y (zNm k)) : zKi B n y (f + 1) k = k := if_pos h
def zKn (B : Nat → Int32) (n y : Nat) : Int32 := if zKi B n y 6 0 < 6 then nI (zKi B n y 6 0) else -1
/-- the reference behind a reading -/
def zPR (x : zX) (a : Nat → Nat) (g : zT) (nu : Nat → Nat → Int64) (n : Nat) (q0 : Int32) (r : zRd) (u' : va_W) : Prop := ∃ (v2 : Int32) (T2 : zT), u' = (match r with
  | .inl z => zMW x a (zTq (g 6) n z q0 v2 1) g nu (zflat T2)
  | .inr q => zMW x a (zTq (g 6) n q.1 q0 v2 0) g nu (zflat q.2))
theorem zNu_le {B : Nat → Int32} {n y most z : Nat} (h : zNu B n y most = some z) : z ≤ most := by
  unfold zNu at h
  by_cases c : zDg B n y ∧ zVn B y (zEn B n y - y) ≤ most
  · rw [if_pos c] at h; cases h; exact c.2
  · rw [if_neg c] at h; cases h
theorem zPa_i {B : Nat → Int32} {n y : Nat} {l : List Int32} {most : Nat} {S : zT} {c j z : Nat} (hy : y ≤ n) (h : zPa B n y l most S c j = .inl z) : z ≤ n := by
  unfold zPa at h
  by_cases d : zIs B n y l
  · rw [if_pos d] at h
    cases e : zNu B n (zNx B n y) most with
    | none => rw [e] at h; cases h; exact zNx_le hy
    | some v => rw [e] at h; cases h
  · rw [if_neg d] at h; cases h
theorem zPa_o {B : Nat → Int32} {n y : Nat} {l : List Int32} {most : Nat} {S T : zT} {c j z : Nat} (hy : y ≤ n) (h : zPa B n y l most S c j = .inr (z, T)) : z ≤ n ∧ y ≤ z ∧ (T = S ∨ ∃ v, v ≤ most ∧ T = zU S c j (nI v)) := by
  unfold zPa at h
  by_cases d : zIs B n y l
  · rw [if_pos d] at h
    cases e : zNu B n (zNx B n y) most with
    | none => rw [e] at h; cases h
    | some v =>
      rw [e] at h; cases h
      exact ⟨zNx_le (zNx_le hy), Nat.le_trans (zNx_ge _ _ _) (zNx_ge _ _ _), Or.inr ⟨v, zNu_le e, rfl⟩⟩
  · rw [if_neg d] at h; cases h; exact ⟨hy, Nat.le_refl _, Or.inl rfl⟩
theorem zWi_o {B : Nat → Int32} {n y : Nat} {l : List Int32} {S T : zT} {c j z : Nat} {v : Int32} (hy : y ≤ n) (h : zWi B n y l S c j v = (z, T)) : z ≤ n ∧ y ≤ z ∧ (T = S ∨ T = zU S c j v) := by
  unfold zWi at h
  by_cases d : zIs B n y l
  · rw [if_pos d] at h; cases h; exact ⟨zNx_le hy, zNx_ge _ _ _, Or.inr rfl⟩
  · rw [if_neg d] at h; cases h; exact ⟨hy, Nat.le_refl _, Or.inl rfl⟩
theorem zBd_r (y : Nat) (S : zT) (f : Nat → zT → zRd) : zBd (.inr (y, S)) f = f y S := rfl
theorem zBd_l (y : Nat) (f : Nat → zT → zRd) : zBd (.inl y) f = .inl y := rfl
theorem zHo_1 {B : Nat → Int32} {n y : Nat} {S : zT} {k z : Nat} (h8 : S 0 0 < 8) (h1 : zPa B n (zNx B n y) (zNm 6) 5 (zAd S (nI k) 0) 4 (zN S) = .inl z) : zHo B n y S k = .inl z := by
  unfold zHo; rw [if_pos h8, h1]; rfl
theorem zHo_2 {B : Nat → Int32} {n y : Nat} {S S1 : zT} {k z y1 : Nat} (h8 : S 0 0 < 8) (h1 : zPa B n (zNx B n y) (zNm 6) 5 (zAd S (nI k) 0) 4 (zN S) = .inr (y1, S1)) (h2 : zPa B n y1 (zNm 7) 99 S1 5 (zN S) = .inl z) : zHo B n y S k = .inl z := by
  unfold zHo; rw [if_pos h8, h1, zBd_r, h2, zBd_l]
theorem zHo_3 {B : Nat → Int32} {n y : Nat} {S S1 S2 S3 S4 S5 : zT} {k y1 y2 y3 y4 y5 : Nat} (h8 : S 0 0 < 8) (h1 : zPa B n (zNx B n y) (zNm 6) 5 (zAd S (nI k) 0) 4 (zN S) = .inr (y1, S1)) (h2 : zPa B n y1 (zNm 7) 99 S1 5 (zN S) = .inr (y2, S2)) (h3 : zWi B n y2 (zNm 8) S2 6 (zN S) 1 = (y3, S3)) (h4 : (if S3 6 (zN S) = 0 then zWi B n y3 (zNm 9) S3 6 (zN S) 2 else (y3, S3)) = (y4, S4)) (h5 : zWi B n y4 (zNm 10) S4 8 (zN S) 1 = (y5, S5)) : zHo B n y S k = .inr (y5, S5) := by
  unfold zHo; rw [if_pos h8, h1, zBd_r, h2, zBd_r]
  simp only [h3, h4, h5]
theorem zSq_0 {B : Nat → Int32} {n y : Nat} {S : zT} (h1 : zNu B n (zNx B n y) 5 = none) : zSq B n y S = .inl (zNx B n y) := by
  unfold zSq; rw [h1]
theorem zSq_1 {B : Nat → Int32} {n y r z : Nat} {S : zT} (h1 : zNu B n (zNx B n y) 5 = some r) (h2 : zPa B n (zNx B n (zNx B n y)) (zNm 12) 99 S 1 r = .inl z) : zSq B n y S = .inl z := by
  unfold zSq; rw [h1]; show zBd (zPa B n (zNx B n (zNx B n y)) (zNm 12) 99 S 1 r) _ = _; rw [h2]; rfl
theorem zSq_2 {B : Nat → Int32} {n y r y1 y2 : Nat} {S S1 S2 : zT} (h1 : zNu B n (zNx B n y) 5 = some r) (h2 : zPa B n (zNx B n (zNx B n y)) (zNm 12) 99 S 1 r = .inr (y1, S1)) (h3 : zWi B n y1 (zNm 13) (zU S1 2 r 0) 2 r 1 = (y2, S2)) : zSq B n y S = .inr (y2, S2) := by
  unfold zSq; rw [h1]; show zBd (zPa B n (zNx B n (zNx B n y)) (zNm 12) 99 S 1 r) _ = _; rw [h2]
  show Sum.inr (zWi B n y1 (zNm 13) (zU S1 2 r 0) 2 r 1) = _
  rw [h3]
theorem zFg_0 {B : Nat → Int32} {n y c most : Nat} {S : zT} (h1 : zNu B n (zNx B n y) most = none) : zFg B n y S c most = .inl (zNx B n y) := by
  unfold zFg; rw [h1]
theorem zFg_1 {B : Nat → Int32} {n y c most z : Nat} {S : zT} (h1 : zNu B n (zNx B n y) most = some z) : zFg B n y S c most = .inr (zNx B n (zNx B n y), zU S 0 c (nI z)) := by
  unfold zFg; rw [h1]
theorem zItc (B : Nat → Int32) (n y : Nat) : zKi B n y 6 0 < 6 ∨ (¬ zKi B n y 6 0 < 6 ∧ zIs B n y (zNm 11)) ∨ (¬ zKi B n y 6 0 < 6 ∧ ¬ zIs B n y (zNm 11) ∧ zIs B n y (zNm 14)) ∨ (¬ zKi B n y 6 0 < 6 ∧ ¬ zIs B n y (zNm 11) ∧ ¬ zIs B n y (zNm 14) ∧ zIs B n y (zNm 15)) ∨ (¬ zKi B n y 6 0 < 6 ∧ ¬ zIs B n y (zNm 11) ∧ ¬ zIs B n y (zNm 14) ∧ ¬ zIs B n y (zNm 15)) := by
  by_cases h1 : zKi B n y 6 0 < 6
  · exact Or.inl h1
  · by_cases h2 : zIs B n y (zNm 11)
    · exact Or.inr (Or.inl ⟨h1, h2⟩)
    · by_cases h3 : zIs B n y (zNm 14)
      · exact Or.inr (Or.inr (Or.inl ⟨h1, h2, h3⟩))
      · by_cases h4 : zIs B n y (zNm 15)
        · exact Or.inr (Or.inr (Or.inr (Or.inl ⟨h1, h2, h3, h4⟩)))
        · exact Or.inr (Or.inr (Or.inr (Or.inr ⟨h1, h2, h3, h4⟩)))
