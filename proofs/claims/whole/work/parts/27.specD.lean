/-! COUNTS, STATUS, THE TAPE -/
abbrev zR2 : Type := Int32 × (Nat → Int32)
def zm_count (S : zT) (tl : Int32) (fd : Nat → Int32) (w : Int32) : zR2 := if w = 0 then (S 0 0, fd) else if w = 1 then (tl, fd) else if w = 2 then (S 0 0 - nI (zpc (zBn (zopn S) (zN S))), fd) else if w = 3 then (nI (zpc (zBn (fun h => decide (S 8 h = 1)) (zN S))), fd) else (-1000000001, zFd fd 0)
def zS7 (fd : Nat → Int32) : Nat → Int32
  | 0 => 0
  | k + 1 => zS7 fd k + fd k
def zm_status (fd : Nat → Int32) (w : Int32) : zR2 := if zBw w (-1) 6 then ((if w < 0 then zS7 fd 7 else fd (zc w)), fd) else (-1000000001, zFd fd 0)
theorem zpc_add : ∀ k, k < 8 → ∀ b, b < 2 ^ k → zpc (b + 2 ^ k) = zpc b + 1 := by decide +kernel
theorem zpc_s (P : Nat → Bool) {k : Nat} (hk : k < 8) : zpc (zBn P (k + 1)) = zpc (zBn P k) + (if P k = true then 1 else 0) := by
  by_cases c : P k = true
  · have e : zBn P (k + 1) = zBn P k + 2 ^ k := if_pos c
    rw [e, if_pos c]; exact zpc_add k hk _ (zBn_lt P k)
  · have e : zBn P (k + 1) = zBn P k := if_neg c
    rw [e, if_neg c]; rfl
theorem zrungs {S : zT} (hI : zInv S) : ∀ k, k ≤ 8 → zSu (fun _ => true) (S 8) k = nI (zpc (zBn (fun h => decide (S 8 h = 1)) k))
  | 0, _ => (show (0 : Int32) = nI (zpc 0) from rfl)
  | k + 1, hk => by
    have ih := zrungs hI k (by omega)
    have e : zSu (fun _ => true) (S 8) (k + 1) = zSu (fun _ => true) (S 8) k + S 8 k := if_pos rfl
    rw [e, ih, zpc_s _ (by omega)]
    rcases zrung hI (show k < 8 by omega) with h | h
    · rw [h, if_neg (by decide)]; exact nI_add _ 0
    · rw [h, if_pos (by decide)]; exact nI_add _ 1
theorem zBn_256 (P : Nat → Bool) {k : Nat} (hk : k ≤ 8) : zBn P k < 256 := Nat.lt_of_lt_of_le (zBn_lt P k) (Nat.pow_le_pow_right (n := 2) (by decide) hk)
def zk1 (v : Int32) : Int32 := v - ((v.toUInt32 >>> ((1 : Int32).toUInt32 &&& Int32.toUInt32 31)).toInt32 &&& 1431655765)
def zk2 (v : Int32) : Int32 := (v &&& 858993459) + ((v.toUInt32 >>> ((2 : Int32).toUInt32 &&& Int32.toUInt32 31)).toInt32 &&& 858993459)
def zk3 (v : Int32) : Int32 := (v + (v.toUInt32 >>> ((4 : Int32).toUInt32 &&& Int32.toUInt32 31)).toInt32) &&& 252645135
def zk4 (v : Int32) : Int32 := v + (v.toUInt32 >>> ((8 : Int32).toUInt32 &&& Int32.toUInt32 31)).toInt32
def zk5 (v : Int32) : Int32 := v + (v.toUInt32 >>> ((16 : Int32).toUInt32 &&& Int32.toUInt32 31)).toInt32
theorem zbc : ∀ b, b < 256 → zk5 (zk4 (zk3 (zk2 (zk1 (nI b))))) &&& 63 = nI (zpc b) := by decide +kernel
/-- status by the reference's sum -/
theorem zS7_one (fd : Nat → Int32) (i : Nat) : ∀ k, (zSu (fun h => decide (h = i)) fd k) = (if i < k then fd i else 0)
  | 0 => rfl
  | k + 1 => by
    have ih := zS7_one fd i k
    unfold zSu
    by_cases c : k = i
    · subst c
      rw [if_pos (decide_eq_true rfl), ih, if_neg (by omega), if_pos (by omega)]
      exact Int32.zero_add _
    · rw [if_neg (by simp [c]), ih]
      by_cases d : i < k
      · rw [if_pos d, if_pos (by omega)]
      · rw [if_neg d, if_neg (by omega)]
theorem zS7_su (fd : Nat → Int32) : ∀ k, zSu (fun _ => true) fd k = zS7 fd k
  | 0 => rfl
  | k + 1 => by
    have e : zSu (fun _ => true) fd (k + 1) = zSu (fun _ => true) fd k + fd k := if_pos rfl
    rw [e, zS7_su fd k]; rfl
/-- the tape, fed the lowest k bytes -/
def zFe (y : Int32) : Nat → (Nat → Int32) → Nat → (Nat → Int32)
  | 0, tb, _ => tb
  | k + 1, tb, n => zFe y k (upd tb n (y >>> ((8 * nI k) &&& 31) &&& 255)) (n + 1)
abbrev zR3 : Type := Int32 × (Nat → Int32) × Nat × (Nat → Int32)
def zm_feed (tb : Nat → Int32) (n : Nat) (fd : Nat → Int32) (y m : Int32) : zR3 := if zBw m 1 4 then (if 120 < nI n + m then (-1000000002, tb, n, zFd fd 1) else (nI (n + zc m), zFe y (zc m) tb n, n + zc m, fd)) else (-1000000001, tb, n, zFd fd 0)
theorem zSu_congr {P Q : Nat → Bool} {f : Nat → Int32} : ∀ k, (∀ h, h < k → P h = Q h) → zSu P f k = zSu Q f k
  | 0, _ => rfl
  | k + 1, h => by
    have ih := zSu_congr (P := P) (Q := Q) (f := f) k (fun i hi => h i (by omega))
    unfold zSu
    rw [ih, h k (by omega)]
theorem zstat {fd : Nat → Int32} {w : Int32} (c : zBw w (-1) 6) : (if w < 0 then zS7 fd 7 else fd (zc w)) = zSu (fun h => decide (w < 0 ∨ nI h = w)) fd 7 := by
  by_cases d : w < 0
  · rw [if_pos d, ← zS7_su]
    exact zSu_congr 7 (fun h _ => (decide_eq_true (Or.inl d)).symm)
  · rw [if_neg d]
    obtain ⟨j, hj, rfl⟩ := zBw_nat (lo := 0) (hi := 6) ⟨Int32.not_lt.mp d, c.2⟩ (by decide) (by decide)
    rw [zc_nI (by omega)]
    have e := zS7_one fd j 7
    rw [if_pos (by omega)] at e
    rw [← e]
    refine zSu_congr 7 (fun h hh => decide_eq_decide.mpr ⟨fun q => Or.inr (by rw [q]), fun q => ?_⟩)
    rcases q with q | q
    · exact absurd q d
    · exact (nI_eq (by omega) (by omega)).mp q
