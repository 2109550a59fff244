/-! LESS THAN WAS WANTING IS NO MORE: two towns that differ in their budgets alone -/
/-- the second has d more, or they are the same -/
theorem fa_ltle {a b c : Int32} (h : a < b) (h2 : b ≤ c) : a < c := Int32.lt_of_lt_of_le h h2
def zRel (d : Nat) (T U : zT) : Prop := U = zU T 0 2 (T 0 2 + nI d) ∨ U = T
def zU2 (T : zT) (v : Int32) : zT := zU T 0 2 v
theorem zU2_ne (T : zT) (v : Int32) {c j : Nat} (h : ¬ (c = 0 ∧ j = 2)) : zU T 0 2 v c j = T c j := zU_ne T v h
theorem zU_comm (T : zT) {c j c' j' : Nat} (v w : Int32) (h : ¬ (c = c' ∧ j = j')) : zU (zU T c j v) c' j' w = zU (zU T c' j' w) c j v := by
  funext a b
  by_cases h1 : a = c ∧ b = j
  · obtain ⟨rfl, rfl⟩ := h1
    rw [zU_at, zU_ne _ _ h, zU_at]
  · by_cases h2 : a = c' ∧ b = j'
    · obtain ⟨rfl, rfl⟩ := h2
      rw [zU_at, zU_ne _ _ h1, zU_at]
    · rw [zU_ne _ _ h2, zU_ne _ _ h1, zU_ne _ _ h1, zU_ne _ _ h2]
theorem zU2_col (T : zT) (v : Int32) (c : Nat) (hc : 0 < c) : zU T 0 2 v c = T c := by
  have : ¬ c = 0 := by omega
  simp [zU, this]
theorem zU2_sc (T : zT) (v : Int32) (j : Nat) (hj : ¬ j = 2) : zU T 0 2 v 0 j = T 0 j := zU_ne T v (fun h => hj h.2)
theorem zPs2 (T : zT) (v : Int32) (h : Nat) (w : Int32) : zPs (zU T 0 2 v) h w = zPs T h w := by unfold zPs; rw [zU2_col T v 3 (by decide), zU2_col T v 5 (by decide)]
theorem zSr2 (T : zT) (v : Int32) (h : Nat) : zSr (zU T 0 2 v) h = zSr T h := by unfold zSr; rw [zU2_col T v 4 (by decide)]
theorem zOp2 (T : zT) (v : Int32) (h : Nat) : zOp (zU T 0 2 v) h ↔ zOp T h := by unfold zOp zLg; rw [zSr2, zU2_col T v 6 (by decide), zU2_col T v 2 (by decide)]
theorem zAh2 (T : zT) (v : Int32) (h o : Nat) : zAh (zU T 0 2 v) h o ↔ zAh T h o := by unfold zAh; rw [zU2_col T v 3 (by decide), zU2_col T v 8 (by decide), zU2_col T v 5 (by decide)]
theorem zBt2 (T : zT) (v : Int32) (h : Nat) (o : Option Nat) : zBt (zU T 0 2 v) h o = zBt T h o := by
  cases o with
  | none => rfl
  | some b => exact decide_eq_decide.mpr (zAh2 T v h b)
/-- numbers of the wanting -/
theorem zLk_in {S : zT} (hI : zInv S) {lk : Int32} (hl : ∃ m : Nat, 1 ≤ m ∧ m ≤ 1000 ∧ lk = nI m) : ∀ k, k ≤ 8 → ∃ m : Nat, 1 ≤ m ∧ m ≤ 1000 ∧ zLk S lk k = nI m
  | 0, _ => hl
  | k + 1, hk => by
    obtain ⟨m, h1, h2, e⟩ := zLk_in hI hl k (by omega)
    obtain ⟨p, p1, p2, ep⟩ := zPs_pos hI (show k < 8 by omega) (S 0 5)
    obtain ⟨b, b1, eb⟩ := hI 0 2 (by decide) (by decide) (by decide)
    have b1 : b ≤ 99999 := b1
    by_cases c : zOp S k ∧ S 0 2 < zPs S k (S 0 5)
    · rw [zLk_pos c, e]
      have c2 := c.2
      rw [ep, eb] at c2
      have hbp : b < p := (nI_ltI (by omega) (by omega)).mp c2
      rw [ep, eb, pk_sub (by omega)]
      by_cases d : nI (p - b) < nI m
      · rw [if_pos d]; exact ⟨p - b, by omega, by omega, rfl⟩
      · rw [if_neg d]; exact ⟨m, h1, h2, rfl⟩
    · rw [zLk_neg c]; exact ⟨m, h1, h2, e⟩
theorem zLk_le {S : zT} {lk : Int32} (k : Nat) : zLk S lk (k + 1) ≤ zLk S lk k := by
  by_cases c : zOp S k ∧ S 0 2 < zPs S k (S 0 5)
  · rw [zLk_pos c]
    by_cases d : zPs S k (S 0 5) - S 0 2 < zLk S lk k
    · rw [if_pos d]; exact Int32.le_of_lt d
    · rw [if_neg d]; exact Int32.le_refl _
  · rw [zLk_neg c]; exact Int32.le_refl _
theorem zLk_mono {S : zT} {lk : Int32} : ∀ k, zLk S lk k ≤ lk
  | 0 => Int32.le_refl _
  | k + 1 => Int32.le_trans (zLk_le k) (zLk_mono k)
/-- with less more than was wanting the same holes are chosen -/
theorem zNb2 {S : zT} (hI : zInv S) {lk : Int32} {d : Nat} (hd : d < 1000) : ∀ k, k ≤ 8 → nI d < zLk S lk k → zNb (zU S 0 2 (S 0 2 + nI d)) k = zNb S k
  | 0, _, _ => rfl
  | k + 1, hk, h => by
    have ih := zNb2 hI hd k (by omega) (fa_ltle h (zLk_le k))
    obtain ⟨p, p1, p2, ep⟩ := zPs_pos hI (show k < 8 by omega) (S 0 5)
    obtain ⟨b, b1, eb⟩ := hI 0 2 (by decide) (by decide) (by decide)
    have b1 : b ≤ 99999 := b1
    have hmy : zMy (zU S 0 2 (S 0 2 + nI d)) k ↔ zMy S k := by
      unfold zMy
      rw [zPs2, zU2_sc S _ 5 (by decide), zU_at, zOp2]
      constructor
      · rintro ⟨h1, h2⟩
        refine ⟨h1, ?_⟩
        rcases Decidable.em (zPs S k (S 0 5) ≤ S 0 2) with q | q
        · exact q
        · exfalso
          have q := Int32.not_le.mp q
          rw [zLk_pos ⟨h1, q⟩] at h
          have h3 : nI d < zPs S k (S 0 5) - S 0 2 := by
            by_cases c : zPs S k (S 0 5) - S 0 2 < zLk S lk k
            · rw [if_pos c] at h; exact h
            · rw [if_neg c] at h; exact fa_ltle h (Int32.not_lt.mp c)
          rw [ep, eb] at h2 h3 q
          have hbp : b < p := (nI_ltI (by omega) (by omega)).mp q
          rw [pk_sub (by omega)] at h3
          rw [nI_add] at h2
          have h4 : d < p - b := (nI_ltI (by omega) (by omega)).mp h3
          have h5 : p ≤ b + d := (nI_leI (by omega) (by omega)).mp h2
          omega
      · rintro ⟨h1, h2⟩
        refine ⟨h1, Int32.le_trans h2 ?_⟩
        rw [eb, nI_add]; exact nI_le (by omega) (by omega)
    by_cases c : zMy S k ∧ zBt S k (zNb S k) = true
    · rw [zNb_pos c.1 c.2, zNb_pos (hmy.mpr c.1) (by rw [ih, zBt2]; exact c.2)]
    · rw [zNb_neg c, zNb_neg (fun h => c ⟨hmy.mp h.1, by rw [← zBt2 S (S 0 2 + nI d), ← ih]; exact h.2⟩), ih]
theorem zsw (b p d : Int32) : b + d - p = b - p + d := by
  rw [Int32.sub_eq_add_neg, Int32.sub_eq_add_neg, Int32.add_assoc, Int32.add_comm d (-p), ← Int32.add_assoc]
theorem zFi2 (S : zT) (h : Nat) (w v : Int32) : zFi (zU S 0 2 (S 0 2 + v)) h w = zU (zFi S h w) 0 2 (zFi S h w 0 2 + v) := by
  have e2 : zFi S h w 0 2 = S 0 2 - zPs S h w := rfl
  rw [e2, ← zsw]
  unfold zFi
  rw [zPs2, zU_at, zU2_sc S _ 6 (by decide), zU_U]
  rw [zU_comm _ _ _ (show ¬ (8 = 0 ∧ h = 2) by omega), zU_comm _ _ _ (show ¬ (7 = 0 ∧ h = 2) by omega), zU_comm _ _ _ (show ¬ (6 = 0 ∧ h = 2) by omega), zU_comm _ _ _ (show ¬ (0 = 0 ∧ 6 = 2) by omega), zU_U]
theorem zMl_mono : ∀ (j : Nat) (S : zT) (lk : Int32), zMl j S lk ≤ lk
  | 0, _, _ => Int32.le_refl _
  | j + 1, S, lk => by
    unfold zMl
    cases zNb S (zN S) with
    | none => exact zLk_mono _
    | some b => exact Int32.le_trans (zMl_mono j _ _) (zLk_mono _)
theorem zMl_in : ∀ (j : Nat) {S : zT} {lk : Int32}, zInv S → (∃ m : Nat, 1 ≤ m ∧ m ≤ 1000 ∧ lk = nI m) → ∃ m : Nat, 1 ≤ m ∧ m ≤ 1000 ∧ zMl j S lk = nI m
  | 0, _, _, _, h => h
  | j + 1, S, lk, hI, h => by
    have h8 := zN_le hI
    unfold zMl
    cases hb : zNb S (zN S) with
    | none => exact zLk_in hI h _ h8
    | some b =>
      obtain ⟨h1, h2⟩ := zNb_lt S _ b hb
      exact zMl_in j (zFi_inv hI (by omega) h2.2) (zLk_in hI h _ h8)
theorem zN2 (S : zT) (v : Int32) : zN (zU S 0 2 v) = zN S := by unfold zN; rw [zU2_sc S v 0 (by decide)]
theorem zMs2 {d : Nat} (hd : d < 1000) : ∀ (j : Nat) {S : zT} {lk : Int32}, zInv S → nI d < zMl j S lk → zMs j (zU S 0 2 (S 0 2 + nI d)) = zU (zMs j S) 0 2 (zMs j S 0 2 + nI d)
  | 0, _, _, _, _ => rfl
  | j + 1, S, lk, hI, h => by
    have h8 := zN_le hI
    unfold zMl at h
    cases hb : zNb S (zN S) with
    | none =>
      rw [hb] at h
      have e := zNb2 hI hd (zN S) h8 h
      unfold zMs
      rw [zN2, e, hb]
    | some b =>
      rw [hb] at h
      have e := zNb2 hI hd (lk := lk) (zN S) h8 (fa_ltle h (zMl_mono j _ _))
      obtain ⟨h1, h2⟩ := zNb_lt S _ b hb
      have ih := zMs2 hd j (zFi_inv hI (show b < 8 by omega) h2.2) h
      have e1 : zMs (j + 1) (zU S 0 2 (S 0 2 + nI d)) = zMs j (zFi (zU S 0 2 (S 0 2 + nI d)) b (zU S 0 2 (S 0 2 + nI d) 0 5)) := by
        show (match zNb (zU S 0 2 (S 0 2 + nI d)) (zN (zU S 0 2 (S 0 2 + nI d))) with
          | none => _
          | some b => zMs j _) = _
        rw [zN2, e, hb]
      have e2 : zMs (j + 1) S = zMs j (zFi S b (S 0 5)) := by
        show (match zNb S (zN S) with
          | none => _
          | some b => zMs j _) = _
        rw [hb]
      rw [e1, e2, zU2_sc S _ 5 (by decide), zFi2]
      exact ih
theorem zWo2 (S : zT) (v : Int32) : zWo (zU S 0 2 v) = zWo S := by unfold zWo; rw [zU2_sc S v 1 (by decide)]
theorem zWe2 (S : zT) (v : Int32) (h : Nat) : zWe (zU S 0 2 v) h = zU (zWe S h) 0 2 v := by
  have eg : zGs (zU S 0 2 v) h = zGs S h := by unfold zGs; rw [zWo2, zSr2, zU2_col S v 3 (by decide), zU2_col S v 5 (by decide), zU2_col S v 1 (by decide)]
  unfold zWe
  rw [eg, zU2_col S v 6 (by decide), zU2_col S v 5 (by decide), zU2_col S v 3 (by decide), zU2_col S v 7 (by decide)]
  by_cases c : S 6 h = 0
  · rw [if_pos c, if_pos c]; exact zU_comm _ _ _ (by omega)
  · rw [if_neg c, if_neg c]
    by_cases d : zHd (S 3 h) (S 6 h) < zHt (S 7 h + 1) 999
    · rw [if_pos d, if_pos d, zU_comm S _ _ (show ¬ (0 = 7 ∧ 2 = h) by omega), zU_comm _ _ _ (show ¬ (0 = 6 ∧ 2 = h) by omega)]
    · rw [if_neg d, if_neg d]; exact zU_comm _ _ _ (by omega)
theorem zWs2 (S : zT) (v : Int32) : ∀ k, zWs (zU S 0 2 v) k = zU (zWs S k) 0 2 v
  | 0 => rfl
  | k + 1 => by
    show zWe (zWs (zU S 0 2 v) k) k = zU (zWe (zWs S k) k) 0 2 v
    rw [zWs2 S v k, zWe2]
theorem zWn2 (S : zT) (v : Int32) : zWn (zU S 0 2 v) = zU (zWn S) 0 2 v := by
  unfold zWn
  rw [zU2_sc S v 1 (by decide)]
  exact zU_comm _ _ _ (by decide)
theorem zWk2 {d : Nat} (hd : d < 1000) {S U : zT} {lk : Int32} (hI : zInv S) (h : nI d < zMl (zMn S) S lk) (hr : zRel d S U) : zRel d (zWk S) (zWk U) := by
  rcases hr with rfl | rfl
  · have em : zMn (zU S 0 2 (S 0 2 + nI d)) = zMn S := by unfold zMn; rw [zU2_sc S _ 4 (by decide)]
    have ea : zWn (zWa (zU S 0 2 (S 0 2 + nI d))) = zU (zWn (zWa S)) 0 2 (zMs (zMn S) S 0 2 + nI d) := by
      unfold zWa
      rw [em, zN2, zMs2 hd (zMn S) hI h, zWs2, zWn2]
    have e2 : zWn (zWa S) 0 2 = zMs (zMn S) S 0 2 := by
      have h5 := (zWs_ok (zMs_ok (zMn S) hI).1 (zN S) (zN_le hI)).2 2
      exact h5
    unfold zWk
    rw [ea, zWo2]
    by_cases c : zWo (zWn (zWa S)) = 12
    · rw [if_pos c, if_pos c, zU_U, zU2_sc _ _ 3 (by decide)]; exact Or.inr rfl
    · rw [if_neg c, if_neg c, ← e2]; exact Or.inl rfl
  · exact Or.inr rfl
theorem zGl_mono : ∀ (n : Nat) (S : zT) (lk : Int32), zGl n S lk ≤ lk
  | 0, _, _ => Int32.le_refl _
  | n + 1, S, lk => Int32.le_trans (zGl_mono n _ _) (zMl_mono _ _ _)
theorem zGl_in : ∀ (n : Nat) {S : zT} {lk : Int32}, zInv S → (∃ m : Nat, 1 ≤ m ∧ m ≤ 1000 ∧ lk = nI m) → ∃ m : Nat, 1 ≤ m ∧ m ≤ 1000 ∧ zGl n S lk = nI m
  | 0, _, _, _, h => h
  | n + 1, S, lk, hI, h => zGl_in n (zWk_ok hI).1 (zMl_in (zMn S) hI h)
theorem zGo2 {d : Nat} (hd : d < 1000) : ∀ (n : Nat) {S U : zT} {lk : Int32}, zInv S → nI d < zGl n S lk → zRel d S U → zRel d (zGo n S) (zGo n U)
  | 0, _, _, _, _, _, hr => hr
  | n + 1, S, U, lk, hI, h, hr => zGo2 hd n (zWk_ok hI).1 h (zWk2 hd hI (fa_ltle h (zGl_mono n _ _)) hr)
theorem zWr2 {d : Nat} {S U : zT} (hr : zRel d S U) : zWr U = zWr S := by
  rcases hr with rfl | rfl
  · unfold zWr
    rw [zN2, zU2_col S _ 5 (by decide)]
    have : zopn (zU S 0 2 (S 0 2 + nI d)) = zopn S := by funext h; unfold zopn; rw [zU2_col S _ 6 (by decide)]
    rw [this]
  · rfl
/-- the search may skip -/
theorem zskip {S : zT} (hI : zInv S) {n k i : Nat} {v : Int32} (hk : k < 1000) (hi : k ≤ i) (hi99 : i < 100000) (h : nI (i - k) < zGl n (zU S 0 2 (nI k)) 1000) : zpL S 2 n v i = zpL S 2 n v k := by
  have hI2 : zInv (zU S 0 2 (nI k)) := hI.u (c := 0) (j := 2) (v := nI k) (Or.inr ⟨k, (show k ≤ 99999 by omega), rfl⟩)
  obtain ⟨m, m1, m2, em⟩ := zGl_in n hI2 (lk := 1000) ⟨1000, by decide, by decide, rfl⟩
  have hd : i - k < 1000 := by
    rw [em] at h
    rcases Nat.lt_or_ge (i - k) 1000 with q | q
    · exact q
    · exfalso
      by_cases hb : i - k < 2147483648
      · have := (nI_ltI hb (by omega)).mp h; omega
      · exact absurd hi99 (by omega)
  have hr : zRel (i - k) (zU S 0 2 (nI k)) (zU S 0 2 (nI i)) := by
    refine Or.inl ?_
    rw [zU_at, nI_add, zU_U, show k + (i - k) = i from by omega]
  unfold zpL
  rw [zWr2 (zGo2 hd n hI2 h hr)]
theorem zF1_skip {p : Nat → Bool} : ∀ (m k : Nat), (∀ i, k ≤ i → i < k + m → i < 1000 → ¬ p i = true) → zF1 p (1000 - k) k = zF1 p (1000 - (k + m)) (k + m)
  | 0, k, _ => rfl
  | m + 1, k, h => by
    by_cases hk : k < 1000
    · rw [show 1000 - k = (1000 - (k + 1)) + 1 from by omega, zF1_f (h k (Nat.le_refl _) (by omega) hk)]
      have ih := zF1_skip m (k + 1) (fun i h1 h2 h3 => h i (by omega) (by omega) h3)
      rw [ih, show k + 1 + m = k + (m + 1) from by omega]
    · have e1 : 1000 - k = 0 := by omega
      have e2 : 1000 - (k + (m + 1)) = 0 := by omega
      rw [e1, e2]; rfl
theorem zbskip {S : zT} (hI : zInv S) {j k m : Nat} {v : Int32} (hk : k < 1000) (hm : m ≤ 1000) (e : zGl j (zU S 0 2 (nI k)) 1000 = nI m) (hp : ¬ zpL S 2 j v k = true) : zF1 (zpL S 2 j v) (1000 - k) k = zF1 (zpL S 2 j v) (1000 - (k + m)) (k + m) := by
  refine zF1_skip m k (fun i h1 h2 h3 => ?_)
  rw [zskip hI hk h1 (by omega) (by rw [e]; exact nI_lt (by omega) (by omega))]
  exact hp
theorem zstep {m : Nat} (h1 : 1 ≤ m) (hm : m ≤ 1000) : (if (1 : Int32) < nI m then nI m else 1) = nI m := by
  by_cases c : (1 : Int32) < nI m
  · rw [if_pos c]
  · rw [if_neg c]
    rcases Nat.lt_or_ge 1 m with q | q
    · exact absurd (nI_lt (a := 1) q (by omega)) c
    · rw [show m = 1 from by omega]; rfl
theorem zge1000 {k : Nat} (hk : k < 2000) (c : 999 < nI k) : 1000 - k = 0 := by
  have : 999 < k := (nI_ltI (a := 999) (by decide) (by omega)).mp c
  omega
