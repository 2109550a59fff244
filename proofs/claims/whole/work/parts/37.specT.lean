/-! TEXT: one parser of numbers and words for both. B what the tape holds, n how much of it counts. -/
/-- the first place from one on whose byte is not between two others -/
def zRf (B : Nat → Int32) (lo hi : Int32) : Nat → Nat → Nat
  | 0, y => y
  | k + 1, y => if lo ≤ B y ∧ B y ≤ hi then zRf B lo hi k (y + 1) else y
def zRu (B : Nat → Int32) (n : Nat) (lo hi : Int32) (y : Nat) : Nat := zRf B lo hi (n - y) y
theorem zRu_t {B : Nat → Int32} {n : Nat} {lo hi : Int32} {y : Nat} (h : y < n) (c : lo ≤ B y ∧ B y ≤ hi) : zRu B n lo hi (y + 1) = zRu B n lo hi y := by
  unfold zRu
  rw [show n - y = (n - (y + 1)) + 1 by omega]
  exact (if_pos c).symm
theorem zRu_f {B : Nat → Int32} {n : Nat} {lo hi : Int32} {y : Nat} (c : ¬ (y < n ∧ lo ≤ B y ∧ B y ≤ hi)) : zRu B n lo hi y = y := by
  unfold zRu
  by_cases h : y < n
  · rw [show n - y = (n - (y + 1)) + 1 by omega]
    exact if_neg (fun d => c ⟨h, d⟩)
  · rw [show n - y = 0 by omega]; rfl
theorem zRf_ok (B : Nat → Int32) (lo hi : Int32) : ∀ k y, y ≤ zRf B lo hi k y ∧ zRf B lo hi k y ≤ y + k ∧ ∀ i, y ≤ i → i < zRf B lo hi k y → lo ≤ B i ∧ B i ≤ hi
  | 0, y => ⟨Nat.le_refl _, Nat.le_refl _, fun i h1 h2 => absurd h2 (Nat.not_lt.mpr h1)⟩
  | k + 1, y => by
    unfold zRf
    by_cases c : lo ≤ B y ∧ B y ≤ hi
    · rw [if_pos c]
      obtain ⟨h1, h2, h3⟩ := zRf_ok B lo hi k (y + 1)
      refine ⟨by omega, by omega, fun i hi1 hi2 => ?_⟩
      by_cases e : i = y
      · subst e; exact c
      · exact h3 i (by omega) hi2
    · rw [if_neg c]
      exact ⟨Nat.le_refl _, by omega, fun i h1 h2 => absurd h2 (Nat.not_lt.mpr h1)⟩
theorem zRu_ge (B : Nat → Int32) (n : Nat) (lo hi : Int32) (y : Nat) : y ≤ zRu B n lo hi y := (zRf_ok B lo hi _ _).1
theorem zRu_le {B : Nat → Int32} {n : Nat} {lo hi : Int32} {y : Nat} (h : y ≤ n) : zRu B n lo hi y ≤ n := by
  have := (zRf_ok B lo hi (n - y) y).2.1
  unfold zRu; omega
theorem zRu_in {B : Nat → Int32} {n : Nat} {lo hi : Int32} {y i : Nat} (h1 : y ≤ i) (h2 : i < zRu B n lo hi y) : lo ≤ B i ∧ B i ≤ hi := (zRf_ok B lo hi (n - y) y).2.2 i h1 h2
/-- a letter, a digit stands at a place -/
abbrev zLt (B : Nat → Int32) (n y : Nat) : Prop := y < n ∧ 97 ≤ B y ∧ B y ≤ 122
abbrev zDg (B : Nat → Int32) (n y : Nat) : Prop := y < n ∧ 48 ≤ B y ∧ B y ≤ 57
theorem zLD {B : Nat → Int32} {n y : Nat} (h : zLt B n y) : ¬ zDg B n y := fun d => by
  have h1 := Int32.le_iff_toInt_le.mp h.2.1
  have h2 := Int32.le_iff_toInt_le.mp d.2.2
  have e1 : (97 : Int32).toInt = 97 := by decide
  have e2 : (57 : Int32).toInt = 57 := by decide
  omega
/-- the end of what stands at a place; the place behind it -/
def zEn (B : Nat → Int32) (n y : Nat) : Nat := if zLt B n y then zRu B n 97 122 y else if zDg B n y then zRu B n 48 57 y else if y < n then y + 1 else y
def zNx (B : Nat → Int32) (n y : Nat) : Nat := zRu B n 32 32 (zEn B n y)
theorem zEn_L {B : Nat → Int32} {n y : Nat} (h : zLt B n y) : zEn B n y = zRu B n 97 122 y := if_pos h
theorem zEn_D {B : Nat → Int32} {n y : Nat} (h : zDg B n y) : zEn B n y = zRu B n 48 57 y := (if_neg (fun d => zLD d h)).trans (if_pos h)
theorem zEn_ge (B : Nat → Int32) (n y : Nat) : y ≤ zEn B n y := by
  unfold zEn
  split
  · exact zRu_ge _ _ _ _ _
  · split
    · exact zRu_ge _ _ _ _ _
    · split <;> omega
theorem zEn_le {B : Nat → Int32} {n y : Nat} (h : y ≤ n) : zEn B n y ≤ n := by
  unfold zEn
  split
  · exact zRu_le h
  · split
    · exact zRu_le h
    · split <;> omega
theorem zEn_gt {B : Nat → Int32} {n y : Nat} (h : y < n) : y < zEn B n y := by
  unfold zEn
  split
  · rename_i c; rw [← zRu_t h c.2]; exact zRu_ge _ _ _ _ _
  · split
    · rename_i c; rw [← zRu_t h c.2]; exact zRu_ge _ _ _ _ _
    · first | exact Nat.lt_succ_self _ | (rw [if_pos h]; exact Nat.lt_succ_self _)
theorem zNx_ge (B : Nat → Int32) (n y : Nat) : y ≤ zNx B n y := Nat.le_trans (zEn_ge B n y) (zRu_ge _ _ _ _ _)
theorem zNx_le {B : Nat → Int32} {n y : Nat} (h : y ≤ n) : zNx B n y ≤ n := zRu_le (zEn_le h)
theorem zNx_gt {B : Nat → Int32} {n y : Nat} (h : y < n) : y < zNx B n y := Nat.lt_of_lt_of_le (zEn_gt h) (zRu_ge _ _ _ _ _)
/-- letters and digits as numbers -/
def zdl (v : Int32) : Nat := v.toInt.toNat - 96
def zdd (v : Int32) : Nat := v.toInt.toNat - 48
theorem zdl_ok {v : Int32} (h : 97 ≤ v ∧ v ≤ 122) : 1 ≤ zdl v ∧ zdl v ≤ 26 ∧ v = nI (96 + zdl v) := by
  have h1 := Int32.le_iff_toInt_le.mp h.1
  have h2 := Int32.le_iff_toInt_le.mp h.2
  have e1 : (97 : Int32).toInt = 97 := by decide
  have e2 : (122 : Int32).toInt = 122 := by decide
  unfold zdl
  refine ⟨by omega, by omega, Int32.toInt_inj.mp ?_⟩
  rw [nI_toInt (by omega)]; omega
theorem zdd_ok {v : Int32} (h : 48 ≤ v ∧ v ≤ 57) : zdd v ≤ 9 ∧ v = nI (48 + zdd v) := by
  have h1 := Int32.le_iff_toInt_le.mp h.1
  have h2 := Int32.le_iff_toInt_le.mp h.2
  have e1 : (48 : Int32).toInt = 48 := by decide
  have e2 : (57 : Int32).toInt = 57 := by decide
  unfold zdd
  refine ⟨by omega, Int32.toInt_inj.mp ?_⟩
  rw [nI_toInt (by omega)]; omega
/-- the number of the first k digits from a place on: held at 10000; as the reference holds it -/
def zVn (B : Nat → Int32) (y : Nat) : Nat → Nat
  | 0 => 0
  | k + 1 => min (zVn B y k * 10 + zdd (B (y + k))) 10000
def zVm (B : Nat → Int32) (y : Nat) : Nat → Nat
  | 0 => 0
  | k + 1 => if 9999 < zVm B y k then zVm B y k else 10 * zVm B y k + zdd (B (y + k))
theorem zVn_le (B : Nat → Int32) (y : Nat) : ∀ k, zVn B y k ≤ 10000
  | 0 => Nat.zero_le _
  | k + 1 => Nat.min_le_right _ _
theorem zVm_n (B : Nat → Int32) (y : Nat) : ∀ k, (zVm B y k = zVn B y k ∧ zVn B y k ≤ 9999) ∨ (9999 < zVm B y k ∧ zVn B y k = 10000)
  | 0 => Or.inl ⟨rfl, Nat.zero_le _⟩
  | k + 1 => by
    have e1 : zVn B y (k + 1) = min (zVn B y k * 10 + zdd (B (y + k))) 10000 := rfl
    have e2 : zVm B y (k + 1) = if 9999 < zVm B y k then zVm B y k else 10 * zVm B y k + zdd (B (y + k)) := rfl
    rcases zVm_n B y k with ⟨h, h2⟩ | ⟨h, h2⟩
    · rw [if_neg (by omega)] at e2
      rw [e1, e2, h]
      omega
    · rw [if_pos h] at e2
      rw [e1, e2, h2]
      omega
theorem zVm_lt (B : Nat → Int32) (y : Nat) : ∀ k, (∀ i, i < k → zdd (B (y + i)) ≤ 9) → zVm B y k ≤ 99999
  | 0, _ => Nat.zero_le _
  | k + 1, h => by
    have h0 := zVm_lt B y k (fun i hi => h i (by omega))
    have h1 := h k (by omega)
    unfold zVm
    split <;> omega
/-- the word of the first k letters from a place on, to the base 32, held -/
def zWd (B : Nat → Int32) (y : Nat) : Nat → Nat
  | 0 => 0
  | k + 1 => if 36028797018963967 < zWd B y k then zWd B y k else 32 * zWd B y k + zdl (B (y + k))
theorem zWd_lt (B : Nat → Int32) (y : Nat) : ∀ k, (∀ i, i < k → zdl (B (y + i)) ≤ 26) → zWd B y k < 2 ^ 62
  | 0, _ => (show 0 < 2 ^ 62 by decide)
  | k + 1, h => by
    have h0 := zWd_lt B y k (fun i hi => h i (by omega))
    have h1 := h k (by omega)
    unfold zWd
    split <;> omega
theorem zWd_pos {B : Nat → Int32} {y : Nat} : ∀ k, 0 < k → (∀ i, i < k → 97 ≤ B (y + i) ∧ B (y + i) ≤ 122) → 0 < zWd B y k
  | 0, h, _ => absurd h (by decide)
  | k + 1, _, h => by
    have h1 := (zdl_ok (h k (by omega))).1
    unfold zWd
    split <;> omega
theorem zWd_inj {B N : Nat → Int32} {y : Nat} : ∀ k m, (∀ i, i < k → 97 ≤ B (y + i) ∧ B (y + i) ≤ 122) → (∀ i, i < m → 97 ≤ N (0 + i) ∧ N (0 + i) ≤ 122) → zWd N 0 m ≤ 36028797018963967 → zWd B y k = zWd N 0 m → k = m ∧ ∀ i, i < k → B (y + i) = N (0 + i)
  | 0, m, _, hm, _, e => by
    rcases Nat.eq_zero_or_pos m with h | h
    · exact ⟨h.symm, fun i hi => absurd hi (Nat.not_lt_zero _)⟩
    · have := zWd_pos m h hm
      have : (0 : Nat) = zWd N 0 m := e
      omega
  | k + 1, 0, hk, _, _, e => by
    have := zWd_pos (k + 1) (by omega) hk
    have e : zWd B y (k + 1) = 0 := e
    omega
  | k + 1, m + 1, hk, hm, hM, e => by
    obtain ⟨b1, b2, b3⟩ := zdl_ok (hk k (by omega))
    obtain ⟨n1, n2, n3⟩ := zdl_ok (hm m (by omega))
    have eN : zWd N 0 (m + 1) = if 36028797018963967 < zWd N 0 m then zWd N 0 m else 32 * zWd N 0 m + zdl (N (0 + m)) := rfl
    have eB : zWd B y (k + 1) = if 36028797018963967 < zWd B y k then zWd B y k else 32 * zWd B y k + zdl (B (y + k)) := rfl
    by_cases cN : 36028797018963967 < zWd N 0 m
    · rw [if_pos cN] at eN; omega
    · rw [if_neg cN] at eN
      by_cases cB : 36028797018963967 < zWd B y k
      · rw [if_pos cB] at eB; omega
      · rw [if_neg cB] at eB
        have h1 : zWd B y k = zWd N 0 m := by omega
        have h2 : zdl (B (y + k)) = zdl (N (0 + m)) := by omega
        obtain ⟨r1, r2⟩ := zWd_inj k m (fun i hi => hk i (by omega)) (fun i hi => hm i (by omega)) (by omega) h1
        subst r1
        refine ⟨rfl, fun i hi => ?_⟩
        by_cases c : i = k
        · subst c; rw [b3, n3, h2]
        · exact r2 i (by omega)
theorem zWd_congr {B N : Nat → Int32} {y : Nat} : ∀ k, (∀ i, i < k → B (y + i) = N (0 + i)) → zWd B y k = zWd N 0 k
  | 0, _ => rfl
  | k + 1, h => by
    unfold zWd
    rw [zWd_congr k (fun i hi => h i (by omega)), h k (by omega)]
/-- a word stands at a place -/
abbrev zIs (B : Nat → Int32) (n y : Nat) (l : List Int32) : Prop := zLt B n y ∧ zEn B n y = y + l.length ∧ ∀ i, i < l.length → B (y + i) = l.getD i 0
/-- what the reference's word answers -/
def zWv (B : Nat → Int32) (n y : Nat) : Nat := if zLt B n y then zWd B y (zEn B n y - y) else 0
/-- a name: its letters, few -/
def zNa (l : List Int32) : Prop := 0 < l.length ∧ (∀ i, i < l.length → 97 ≤ l.getD i 0 ∧ l.getD i 0 ≤ 122) ∧ zWd (fun i => l.getD i 0) 0 l.length ≤ 36028797018963967
def zNv (l : List Int32) : Nat := zWd (fun i => l.getD i 0) 0 l.length
theorem zWv_is {B : Nat → Int32} {n y : Nat} {l : List Int32} (hl : zNa l) : zWv B n y = zNv l ↔ zIs B n y l := by
  unfold zWv zNv
  have g : ∀ i, i < l.length → 97 ≤ (fun i => l.getD i 0) (0 + i) ∧ (fun i => l.getD i 0) (0 + i) ≤ 122 := fun i hi => by
    show 97 ≤ l.getD (0 + i) 0 ∧ l.getD (0 + i) 0 ≤ 122
    rw [Nat.zero_add]; exact hl.2.1 i hi
  have z : ∀ i, (fun i => l.getD i 0) (0 + i) = l.getD i 0 := fun i => by show l.getD (0 + i) 0 = _; rw [Nat.zero_add]
  by_cases c : zLt B n y
  · rw [if_pos c]
    have hin : ∀ i, i < zEn B n y - y → 97 ≤ B (y + i) ∧ B (y + i) ≤ 122 := fun i hi => by
      rw [zEn_L c] at hi
      exact zRu_in (n := n) (y := y) (by omega) (by omega)
    have hge := zEn_ge B n y
    constructor
    · intro e
      obtain ⟨h1, h2⟩ := zWd_inj _ _ hin g hl.2.2 e
      exact ⟨c, by omega, fun i hi => (h2 i (by omega)).trans (z i)⟩
    · intro h
      rw [show zEn B n y - y = l.length by have := h.2.1; omega]
      exact zWd_congr _ (fun i hi => (h.2.2 i hi).trans (z i).symm)
  · rw [if_neg c]
    constructor
    · intro e
      have := zWd_pos (B := fun i => l.getD i 0) (y := 0) l.length hl.1 g
      omega
    · intro h; exact absurd h.1 c
theorem zIs_lt {B : Nat → Int32} {n y : Nat} {l : List Int32} (h : zIs B n y l) : y < n := h.1.1
/-- a number of most at most -/
def zNu (B : Nat → Int32) (n y most : Nat) : Option Nat := if zDg B n y ∧ zVn B y (zEn B n y - y) ≤ most then some (zVn B y (zEn B n y - y)) else none
/-- a reading: the fault's place, or what stands behind -/
abbrev zRd : Type := Sum Nat (Nat × zT)
def zBd (r : zRd) (f : Nat → zT → zRd) : zRd := match r with
  | .inl y => .inl y
  | .inr q => f q.1 q.2
/-- perhaps a word and a number -/
def zPa (B : Nat → Int32) (n y : Nat) (l : List Int32) (most : Nat) (S : zT) (c j : Nat) : zRd := if zIs B n y l then (match zNu B n (zNx B n y) most with
    | some v => .inr (zNx B n (zNx B n y), zU S c j (nI v))
    | none => .inl (zNx B n y)) else .inr (y, S)
/-- perhaps a word -/
def zWi (B : Nat → Int32) (n y : Nat) (l : List Int32) (S : zT) (c j : Nat) (v : Int32) : Nat × zT := if zIs B n y l then (zNx B n y, zU S c j v) else (y, S)
def zNm (i : Nat) : List Int32 := zSb.getD i []
def zHo (B : Nat → Int32) (n y : Nat) (S : zT) (k : Nat) : zRd := if S 0 0 < 8 then
    zBd (zPa B n (zNx B n y) (zNm 6) 5 (zAd S (nI k) 0) 4 (zN S)) (fun y1 S1 => zBd (zPa B n y1 (zNm 7) 99 S1 5 (zN S)) (fun y2 S2 =>
      let r := zWi B n y2 (zNm 8) S2 6 (zN S) 1
      let r2 := if r.2 6 (zN S) = 0 then zWi B n r.1 (zNm 9) r.2 6 (zN S) 2 else r
      .inr (zWi B n r2.1 (zNm 10) r2.2 8 (zN S) 1))) else .inl y
def zSq (B : Nat → Int32) (n y : Nat) (S : zT) : zRd := match zNu B n (zNx B n y) 5 with
  | none => .inl (zNx B n y)
  | some r => zBd (zPa B n (zNx B n (zNx B n y)) (zNm 12) 99 S 1 r) (fun y1 S1 => .inr (zWi B n y1 (zNm 13) (zU S1 2 r 0) 2 r 1))
def zFg (B : Nat → Int32) (n y : Nat) (S : zT) (c most : Nat) : zRd := match zNu B n (zNx B n y) most with
  | none => .inl (zNx B n y)
  | some v => .inr (zNx B n (zNx B n y), zU S 0 c (nI v))
/-- the first of the kinds from k on whose name stands here; 6: none -/
def zKi (B : Nat → Int32) (n y : Nat) : Nat → Nat → Nat
  | 0, k => k
  | f + 1, k => if zIs B n y (zNm k) then k else zKi B n y f (k + 1)
def zIt (B : Nat → Int32) (n y : Nat) (S : zT) : zRd := if zKi B n y 6 0 < 6 then zHo B n y S (zKi B n y 6 0) else if zIs B n y (zNm 11) then zSq B n y S else if zIs B n y (zNm 14) then zFg B n y S 2 9999 else if zIs B n y (zNm 15) then zFg B n y S 4 6 else .inl y
def zTx (B : Nat → Int32) (n : Nat) : Nat → Nat → Nat → zT → Int32 × Option zT
  | 0, _, y, _ => (-1 - nI y, none)
  | f + 1, k, y, S => match zIt B n y S with
    | .inl z => (-1 - nI z, none)
    | .inr q => if q.1 < n ∧ B q.1 = 59 then zTx B n f (k + 1) (zNx B n q.1) q.2 else if q.1 < n then (-1 - nI q.1, none) else (nI k, some q.2)
def zm_text (B : Nat → Int32) (n : Nat) (S : zT) : Int32 × zT := ((zTx B n 121 1 (zRu B n 32 32 0) S).1, ((zTx B n 121 1 (zRu B n 32 32 0) S).2).getD S)
theorem zNm_ok : ∀ i, i < 16 → zNa (zNm i) := by
  unfold zNa; decide +kernel
