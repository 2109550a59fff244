/-! TEXT: what a reading keeps -/
theorem zIn_of {v b : Nat} (h : v ≤ b) : zIn (nI v) b := ⟨v, h, rfl⟩
theorem zAd_inv {S : zT} (hI : zInv S) {k st : Nat} (hk : k ≤ 5) (hst : st ≤ 5) (h8 : zN S < 8) : zInv (zAd S (nI k) (nI st)) := by
  have h0 := zN_0 hI
  unfold zAd
  refine zInv.u (zInv.u (zInv.u (zInv.u (zInv.u (zInv.u (zInv.u hI ?_) ?_) ?_) ?_) ?_) ?_) ?_
  · exact Or.inr ⟨k, hk, rfl⟩
  · exact Or.inr ⟨st, hst, rfl⟩
  · exact Or.inr ⟨5, (show 5 ≤ 99 by decide), rfl⟩
  · exact Or.inr ⟨0, (Nat.zero_le _), rfl⟩
  · exact Or.inr ⟨0, (Nat.zero_le _), rfl⟩
  · exact Or.inr ⟨0, (Nat.zero_le _), rfl⟩
  · exact Or.inr ⟨zN S + 1, (show zN S + 1 ≤ 8 by omega), by rw [h0, nI_1]⟩
theorem zPa_inv {B : Nat → Int32} {n y : Nat} {l : List Int32} {most : Nat} {S T : zT} {c j z : Nat} (hI : zInv S) (hb : most ≤ zbd c j) (hy : y ≤ n) (h : zPa B n y l most S c j = .inr (z, T)) : zInv T := by
  rcases (zPa_o hy h).2.2 with e | ⟨v, hv, e⟩
  · rw [e]; exact hI
  · rw [e]; exact hI.u (Or.inr ⟨v, Nat.le_trans hv hb, rfl⟩)
theorem zWi_inv {B : Nat → Int32} {n y : Nat} {l : List Int32} {S T : zT} {c j z v : Nat} (hI : zInv S) (hb : v ≤ zbd c j) (hy : y ≤ n) (h : zWi B n y l S c j (nI v) = (z, T)) : zInv T := by
  rcases (zWi_o hy h).2.2 with e | e
  · rw [e]; exact hI
  · rw [e]; exact hI.u (Or.inr ⟨v, hb, rfl⟩)
theorem zHo_i {B : Nat → Int32} {n y k : Nat} {S : zT} (hy : y ≤ n) {z : Nat} (h : zHo B n y S k = .inl z) : z ≤ n := by
  by_cases h8 : S 0 0 < 8
  · cases h1 : zPa B n (zNx B n y) (zNm 6) 5 (zAd S (nI k) 0) 4 (zN S) with
    | inl z1 => rw [zHo_1 h8 h1] at h; cases h; exact zPa_i (zNx_le hy) h1
    | inr q1 =>
      obtain ⟨y1, S1⟩ := q1
      have hy1 := (zPa_o (zNx_le hy) h1).1
      cases h2 : zPa B n y1 (zNm 7) 99 S1 5 (zN S) with
      | inl z2 => rw [zHo_2 h8 h1 h2] at h; cases h; exact zPa_i hy1 h2
      | inr q2 =>
        obtain ⟨y2, S2⟩ := q2
        rw [zHo_3 h8 h1 h2 rfl rfl rfl] at h; cases h
  · rw [show zHo B n y S k = .inl y from if_neg h8] at h; cases h; exact hy
theorem zHo_o {B : Nat → Int32} {n y k : Nat} {S T : zT} (hI : zInv S) (hk : k ≤ 5) (hy : y ≤ n) {z : Nat} (h : zHo B n y S k = .inr (z, T)) : z ≤ n ∧ y ≤ z ∧ zInv T := by
  by_cases h8 : S 0 0 < 8
  · have hz8 : zN S < 8 := by
      rw [zN_0 hI] at h8
      exact (nI_ltI (b := 8) (by have := zN_le hI; omega) (by decide)).mp h8
    cases h1 : zPa B n (zNx B n y) (zNm 6) 5 (zAd S (nI k) 0) 4 (zN S) with
    | inl z1 => rw [zHo_1 h8 h1] at h; cases h
    | inr q1 =>
      obtain ⟨y1, S1⟩ := q1
      obtain ⟨hy1, g1, -⟩ := zPa_o (zNx_le hy) h1
      have i1 := zPa_inv (zAd_inv hI hk (Nat.zero_le 5) hz8) (show 5 ≤ zbd 4 (zN S) from Nat.le_refl 5) (zNx_le hy) h1
      cases h2 : zPa B n y1 (zNm 7) 99 S1 5 (zN S) with
      | inl z2 => rw [zHo_2 h8 h1 h2] at h; cases h
      | inr q2 =>
        obtain ⟨y2, S2⟩ := q2
        obtain ⟨hy2, g2, -⟩ := zPa_o hy1 h2
        have i2 := zPa_inv i1 (show 99 ≤ zbd 5 (zN S) from Nat.le_refl 99) hy1 h2
        cases h3 : zWi B n y2 (zNm 8) S2 6 (zN S) 1 with
        | mk y3 S3 =>
          obtain ⟨hy3, g3, -⟩ := zWi_o hy2 h3
          have i3 := zWi_inv (v := 1) i2 (show 1 ≤ zbd 6 (zN S) from (show 1 ≤ 2 by decide)) hy2 h3
          have k4 : ∃ y4 S4, (if S3 6 (zN S) = 0 then zWi B n y3 (zNm 9) S3 6 (zN S) 2 else (y3, S3)) = (y4, S4) ∧ y4 ≤ n ∧ y3 ≤ y4 ∧ zInv S4 := by
            by_cases c : S3 6 (zN S) = 0
            · cases h4 : zWi B n y3 (zNm 9) S3 6 (zN S) 2 with
              | mk y4 S4 => exact ⟨y4, S4, by rw [if_pos c], (zWi_o hy3 h4).1, (zWi_o hy3 h4).2.1, zWi_inv (v := 2) i3 (show 2 ≤ zbd 6 (zN S) from Nat.le_refl 2) hy3 h4⟩
            · exact ⟨y3, S3, by rw [if_neg c], hy3, Nat.le_refl _, i3⟩
          obtain ⟨y4, S4, h4, hy4, g4, i4⟩ := k4
          cases h5 : zWi B n y4 (zNm 10) S4 8 (zN S) 1 with
          | mk y5 S5 =>
            obtain ⟨hy5, g5, -⟩ := zWi_o hy4 h5
            rw [zHo_3 h8 h1 h2 h3 h4 h5] at h
            cases h
            have g0 := zNx_ge B n y
            exact ⟨hy5, by omega, zWi_inv (v := 1) i4 (show 1 ≤ zbd 8 (zN S) from Nat.le_refl 1) hy4 h5⟩
  · rw [show zHo B n y S k = .inl y from if_neg h8] at h; cases h
theorem zSq_i {B : Nat → Int32} {n y : Nat} {S : zT} (hy : y ≤ n) {z : Nat} (h : zSq B n y S = .inl z) : z ≤ n := by
  cases h1 : zNu B n (zNx B n y) 5 with
  | none => rw [zSq_0 h1] at h; cases h; exact zNx_le hy
  | some r =>
    cases h2 : zPa B n (zNx B n (zNx B n y)) (zNm 12) 99 S 1 r with
    | inl z2 => rw [zSq_1 h1 h2] at h; cases h; exact zPa_i (zNx_le (zNx_le hy)) h2
    | inr q2 =>
      obtain ⟨y2, S2⟩ := q2
      rw [zSq_2 h1 h2 rfl] at h; cases h
theorem zSq_o {B : Nat → Int32} {n y : Nat} {S T : zT} (hI : zInv S) (hy : y ≤ n) {z : Nat} (h : zSq B n y S = .inr (z, T)) : z ≤ n ∧ y ≤ z ∧ zInv T := by
  cases h1 : zNu B n (zNx B n y) 5 with
  | none => rw [zSq_0 h1] at h; cases h
  | some r =>
    cases h2 : zPa B n (zNx B n (zNx B n y)) (zNm 12) 99 S 1 r with
    | inl z2 => rw [zSq_1 h1 h2] at h; cases h
    | inr q2 =>
      obtain ⟨y2, S2⟩ := q2
      obtain ⟨hy2, g2, -⟩ := zPa_o (zNx_le (zNx_le hy)) h2
      have i2 := zPa_inv hI (show 99 ≤ zbd 1 r from Nat.le_refl 99) (zNx_le (zNx_le hy)) h2
      have i3 : zInv (zU S2 2 r 0) := i2.u (Or.inr ⟨0, Nat.zero_le _, rfl⟩)
      cases h3 : zWi B n y2 (zNm 13) (zU S2 2 r 0) 2 r 1 with
      | mk y3 S3 =>
        obtain ⟨hy3, g3, -⟩ := zWi_o hy2 h3
        rw [zSq_2 h1 h2 h3] at h
        cases h
        have g0 := zNx_ge B n y
        have g1 := zNx_ge B n (zNx B n y)
        exact ⟨hy3, by omega, zWi_inv (v := 1) i3 (show 1 ≤ zbd 2 r from Nat.le_refl 1) hy2 h3⟩
theorem zFg_i {B : Nat → Int32} {n y c most : Nat} {S : zT} (hy : y ≤ n) {z : Nat} (h : zFg B n y S c most = .inl z) : z ≤ n := by
  cases h1 : zNu B n (zNx B n y) most with
  | none => rw [zFg_0 h1] at h; cases h; exact zNx_le hy
  | some r => rw [zFg_1 h1] at h; cases h
theorem zFg_o {B : Nat → Int32} {n y c most : Nat} {S T : zT} (hI : zInv S) (hb : most ≤ zbd 0 c) (hy : y ≤ n) {z : Nat} (h : zFg B n y S c most = .inr (z, T)) : z ≤ n ∧ y ≤ z ∧ zInv T := by
  cases h1 : zNu B n (zNx B n y) most with
  | none => rw [zFg_0 h1] at h; cases h
  | some r =>
    rw [zFg_1 h1] at h; cases h
    exact ⟨zNx_le (zNx_le hy), Nat.le_trans (zNx_ge _ _ _) (zNx_ge _ _ _), hI.u (Or.inr ⟨r, Nat.le_trans (zNu_le h1) hb, rfl⟩)⟩
theorem zIt_i {B : Nat → Int32} {n y : Nat} {S : zT} (hy : y ≤ n) {z : Nat} (h : zIt B n y S = .inl z) : z ≤ n := by
  unfold zIt at h
  rcases zItc B n y with a | ⟨a, b⟩ | ⟨a, b, c⟩ | ⟨a, b, c, d⟩ | ⟨a, b, c, d⟩
  · rw [if_pos a] at h; exact zHo_i hy h
  · rw [if_neg a, if_pos b] at h; exact zSq_i hy h
  · rw [if_neg a, if_neg b, if_pos c] at h; exact zFg_i hy h
  · rw [if_neg a, if_neg b, if_neg c, if_pos d] at h; exact zFg_i hy h
  · rw [if_neg a, if_neg b, if_neg c, if_neg d] at h; cases h; exact hy
theorem zIt_o {B : Nat → Int32} {n y : Nat} {S T : zT} (hI : zInv S) (hy : y ≤ n) {z : Nat} (h : zIt B n y S = .inr (z, T)) : z ≤ n ∧ y ≤ z ∧ zInv T := by
  unfold zIt at h
  rcases zItc B n y with a | ⟨a, b⟩ | ⟨a, b, c⟩ | ⟨a, b, c, d⟩ | ⟨a, b, c, d⟩
  · rw [if_pos a] at h; exact zHo_o hI (by omega) hy h
  · rw [if_neg a, if_pos b] at h; exact zSq_o hI hy h
  · rw [if_neg a, if_neg b, if_pos c] at h; exact zFg_o hI (by decide) hy h
  · rw [if_neg a, if_neg b, if_neg c, if_pos d] at h; exact zFg_o hI (by decide) hy h
  · rw [if_neg a, if_neg b, if_neg c, if_neg d] at h; cases h
def zTe (B : Nat → Int32) (n f k z : Nat) (T : zT) : Int32 × Option zT := if z < n ∧ B z = 59 then zTx B n f (k + 1) (zNx B n z) T else if z < n then (-1 - nI z, none) else (nI k, some T)
theorem zTx_i {B : Nat → Int32} {n f k y z : Nat} {S : zT} (h : zIt B n y S = .inl z) : zTx B n (f + 1) k y S = (-1 - nI z, none) := by
  show (match zIt B n y S with | .inl z => (-1 - nI z, none) | .inr q => _) = _
  rw [h]
theorem zTx_o {B : Nat → Int32} {n f k y z : Nat} {S T : zT} (h : zIt B n y S = .inr (z, T)) : zTx B n (f + 1) k y S = zTe B n f k z T := by
  unfold zTx
  rw [h]; rfl
