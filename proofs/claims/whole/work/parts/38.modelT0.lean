/-! THE REFERENCE'S TEXT: where it stands -/
/-- kept, taped, from, to, value, wrong, at a place -/
def zTq (B : Nat → Int32) (n y : Nat) (q0 v w : Int32) : Nat → Int32
  | 0 => q0
  | 1 => nI n
  | 2 => nI y
  | 3 => nI (zEn B n y)
  | 4 => v
  | _ => w
theorem zMW6 {x : zX} {a : Nat → Nat} {q r : Nat → Int32} {g : zT} {nu : Nat → Nat → Int64} {f : Nat → Int32} (h0 : q 0 = r 0) (h1 : q 1 = r 1) (h2 : q 2 = r 2) (h3 : q 3 = r 3) (h4 : q 4 = r 4) (h5 : q 5 = r 5) : zMW x a q g nu f = zMW x a r g nu f := by
  unfold zMW; rw [h0, h1, h2, h3, h4, h5]
def zBy (B : Nat → Int32) (n y : Nat) : Int32 := if y < n then B y else -1
theorem zBy_r {B : Nat → Int32} {n y : Nat} {lo hi : Int32} (h : (-1 : Int32) < lo) : (lo ≤ zBy B n y ∧ zBy B n y ≤ hi) ↔ (y < n ∧ lo ≤ B y ∧ B y ≤ hi) := by
  unfold zBy
  by_cases c : y < n
  · rw [if_pos c]; exact ⟨fun d => ⟨c, d⟩, fun d => d.2⟩
  · rw [if_neg c]; exact ⟨fun d => absurd d.1 (Int32.not_le.mpr h), fun d => absurd d.1 c⟩
theorem zBy_L {B : Nat → Int32} {n y : Nat} : (97 ≤ zBy B n y ∧ zBy B n y ≤ 122) ↔ zLt B n y := zBy_r (by decide)
theorem zBy_D {B : Nat → Int32} {n y : Nat} : (48 ≤ zBy B n y ∧ zBy B n y ≤ 57) ↔ zDg B n y := zBy_r (by decide)
theorem zBy_32 {B : Nat → Int32} {n y : Nat} : zBy B n y = 32 ↔ (y < n ∧ 32 ≤ B y ∧ B y ≤ 32) :=
  ⟨fun h => (zBy_r (by decide)).mp ⟨by rw [h]; decide, by rw [h]; decide⟩, fun h => by
    have := (zBy_r (B := B) (n := n) (y := y) (lo := 32) (hi := 32) (by decide)).mpr h
    exact Int32.le_antisymm this.2 this.1⟩
theorem zBy_59 {B : Nat → Int32} {n y : Nat} : zBy B n y = 59 ↔ (y < n ∧ B y = 59) := by
  unfold zBy
  by_cases c : y < n
  · rw [if_pos c]; exact ⟨fun d => ⟨c, d⟩, fun d => d.2⟩
  · rw [if_neg c]; exact ⟨fun d => absurd d (by decide), fun d => absurd d.1 c⟩
/-- the end of what stands at a place, from further on -/
def zEj (B : Nat → Int32) (n y j : Nat) : Nat := if zLt B n y then zRu B n 97 122 j else if zDg B n y then zRu B n 48 57 j else j
theorem zEj_0 {B : Nat → Int32} {n y : Nat} (h : y < n) : zEj B n y (y + 1) = zEn B n y := by
  unfold zEj zEn
  by_cases c : zLt B n y
  · rw [if_pos c, if_pos c, zRu_t h c.2]
  · rw [if_neg c, if_neg c]
    by_cases d : zDg B n y
    · rw [if_pos d, if_pos d, zRu_t h d.2]
    · rw [if_neg d, if_neg d, if_pos h]
theorem zEj_1 {B : Nat → Int32} {n y : Nat} (h : ¬ y < n) : zEj B n y y = zEn B n y := by
  unfold zEj zEn
  have c : ¬ zLt B n y := fun c => h c.1
  have d : ¬ zDg B n y := fun c => h c.1
  rw [if_neg c, if_neg c, if_neg d, if_neg d, if_neg h]
theorem zEj_sL {B : Nat → Int32} {n y j : Nat} (c : zLt B n y) (h : zLt B n j) : zEj B n y (j + 1) = zEj B n y j := by
  unfold zEj; rw [if_pos c, if_pos c, zRu_t h.1 h.2]
theorem zEj_sD {B : Nat → Int32} {n y j : Nat} (c : ¬ zLt B n y) (d : zDg B n y) (h : zDg B n j) : zEj B n y (j + 1) = zEj B n y j := by
  unfold zEj; rw [if_neg c, if_neg c, if_pos d, if_pos d, zRu_t h.1 h.2]
theorem zEj_xL {B : Nat → Int32} {n y j : Nat} (c : zLt B n y) (h : ¬ zLt B n j) : zEj B n y j = j := by
  unfold zEj; rw [if_pos c]; exact zRu_f h
theorem zEj_xD {B : Nat → Int32} {n y j : Nat} (c : ¬ zLt B n y) (d : zDg B n y) (h : ¬ zDg B n j) : zEj B n y j = j := by
  unfold zEj; rw [if_neg c, if_pos d]; exact zRu_f h
theorem zEj_xN {B : Nat → Int32} {n y j : Nat} (c : ¬ zLt B n y) (d : ¬ zDg B n y) : zEj B n y j = j := by
  unfold zEj; rw [if_neg c, if_neg d]
/-- steps of the word -/
theorem zWd_s1 {B : Nat → Int32} {y i : Nat} (h : ∀ k, k < i + 1 → 97 ≤ B (y + k) ∧ B (y + k) ≤ 122) (c : lN (zWd B y i) ≤ 36028797018963967) : 32 * lN (zWd B y i) + (B (y + i) - 96).toInt64 = lN (zWd B y (i + 1)) := by
  obtain ⟨h1, h2, h3⟩ := zdl_ok (h i (by omega))
  have b := zWd_lt B y i (fun k hk => (zdl_ok (h k (by omega))).2.1)
  have d : zWd B y i ≤ 36028797018963967 := (pk_lLE (a := zWd B y i) (b := 36028797018963967) (by omega) (by decide)).mp c
  have e1 : B (y + i) - 96 = nI (zdl (B (y + i))) := by
    generalize zdl (B (y + i)) = z at h3 h2
    rw [h3]
    have := pk_sub (a := 96 + z) (b := 96) (by omega)
    rw [Nat.add_sub_cancel_left] at this
    exact this
  have e2 : zWd B y (i + 1) = 32 * zWd B y i + zdl (B (y + i)) := if_neg (by omega)
  rw [e1, e2, nI_l (by omega)]
  show lN 32 * lN _ + lN _ = _
  unfold lN
  rw [← Int64.ofNat_mul, ← Int64.ofNat_add]
theorem zWd_s2 {B : Nat → Int32} {y i : Nat} (h : ∀ k, k < i + 1 → 97 ≤ B (y + k) ∧ B (y + k) ≤ 122) (c : ¬ lN (zWd B y i) ≤ 36028797018963967) : lN (zWd B y i) = lN (zWd B y (i + 1)) := by
  have b := zWd_lt B y i (fun k hk => (zdl_ok (h k (by omega))).2.1)
  have d : ¬ zWd B y i ≤ 36028797018963967 := fun d => c ((pk_lLE (a := zWd B y i) (b := 36028797018963967) (by omega) (by decide)).mpr d)
  have e2 : zWd B y (i + 1) = zWd B y i := if_pos (by omega)
  rw [e2]
theorem zEn_inL {B : Nat → Int32} {n y : Nat} (c : zLt B n y) {k : Nat} (hk : y + k < zEn B n y) : 97 ≤ B (y + k) ∧ B (y + k) ≤ 122 := by
  rw [zEn_L c] at hk
  exact zRu_in (n := n) (y := y) (by omega) hk
theorem zEn_inD {B : Nat → Int32} {n y : Nat} (c : zDg B n y) {k : Nat} (hk : y + k < zEn B n y) : 48 ≤ B (y + k) ∧ B (y + k) ≤ 57 := by
  rw [zEn_D c] at hk
  exact zRu_in (n := n) (y := y) (by omega) hk
theorem zWv_lt (B : Nat → Int32) (n y : Nat) : zWv B n y < 2 ^ 62 := by
  unfold zWv
  by_cases c : zLt B n y
  · rw [if_pos c]
    exact zWd_lt B y _ (fun k hk => (zdl_ok (zEn_inL c (k := k) (by omega))).2.1)
  · rw [if_neg c]; decide
theorem zWc {B : Nat → Int32} {n y i : Nat} (hi : i < 16) {c : Int64} (hc : lN (zNv (zNm i)) = c) : lN (zWv B n y) = c ↔ zIs B n y (zNm i) := by
  have h := zNm_ok i hi
  have h1 := zWv_lt B n y
  have h2 : zNv (zNm i) ≤ 36028797018963967 := h.2.2
  rw [← hc, pk_lEQ (by omega) (by omega)]
  exact zWv_is h
/-- steps of the number -/
theorem zVm_s1 {B : Nat → Int32} {y i : Nat} (h : ∀ k, k < i + 1 → 48 ≤ B (y + k) ∧ B (y + k) ≤ 57) (c : nI (zVm B y i) ≤ 9999) : 10 * nI (zVm B y i) + B (y + i) - 48 = nI (zVm B y (i + 1)) := by
  obtain ⟨h2, h3⟩ := zdd_ok (h i (by omega))
  have b := zVm_lt B y i (fun k hk => (zdd_ok (h k (by omega))).1)
  have d : zVm B y i ≤ 9999 := (nI_leI (a := zVm B y i) (b := 9999) (by omega) (by decide)).mp c
  have e2 : zVm B y (i + 1) = 10 * zVm B y i + zdd (B (y + i)) := if_neg (by omega)
  rw [e2]
  generalize zdd (B (y + i)) = z at h3 h2
  rw [h3]
  show nI 10 * nI _ + nI _ - nI 48 = _
  rw [pk_mul, nI_add, pk_sub (by omega)]
  congr 1; omega
theorem zVm_s2 {B : Nat → Int32} {y i : Nat} (h : ∀ k, k < i + 1 → 48 ≤ B (y + k) ∧ B (y + k) ≤ 57) (c : ¬ nI (zVm B y i) ≤ 9999) : nI (zVm B y i) = nI (zVm B y (i + 1)) := by
  have b := zVm_lt B y i (fun k hk => (zdd_ok (h k (by omega))).1)
  have d : ¬ zVm B y i ≤ 9999 := fun d => c ((nI_leI (a := zVm B y i) (b := 9999) (by omega) (by decide)).mpr d)
  have e2 : zVm B y (i + 1) = zVm B y i := if_pos (by omega)
  rw [e2]
theorem zVm_le {B : Nat → Int32} {y k most : Nat} (h : zVm B y k ≤ most) (hm : most ≤ 9999) : zVn B y k = zVm B y k := by
  rcases zVm_n B y k with ⟨a, b⟩ | ⟨a, b⟩
  · exact a.symm
  · omega
theorem zVm_gt {B : Nat → Int32} {y k most : Nat} (h : ¬ zVm B y k ≤ most) (hm : most ≤ 9999) : ¬ zVn B y k ≤ most := by
  rcases zVm_n B y k with ⟨a, b⟩ | ⟨a, b⟩
  · omega
  · omega
