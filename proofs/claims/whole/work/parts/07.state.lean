/-! THE STATE: what a town is, for both; the cells that hold it. -/
/-- (0, k): holes, week, budget, yearly, men, hot, spent; (1, r) traffic, (2, r) let; (3 .. 8, h): kind, street, size, fill, age, rung -/
abbrev zT : Type := Nat → Nat → Int32
def zU (S : zT) (c j : Nat) (v : Int32) : zT := fun c' => if c' = c then upd (S c) j v else S c'
def zUL (S : Nat → Nat → Int64) (c j : Nat) (v : Int64) : Nat → Nat → Int64 := fun c' => if c' = c then vp_updL (S c) j v else S c'
/-- the same in one row -/
def zflat (S : zT) : Nat → Int32 := fun k => if k < 7 then S 0 k else if k < 19 then S (1 + (k - 7) % 2) ((k - 7) / 2) else S (3 + (k - 19) % 6) ((k - 19) / 6)
theorem zU_at (S : zT) (c j : Nat) (v : Int32) : zU S c j v c j = v := by simp [zU, upd]
theorem zU_ne (S : zT) {c j c' j' : Nat} (v : Int32) (h : ¬ (c' = c ∧ j' = j)) : zU S c j v c' j' = S c' j' := by
  by_cases hc : c' = c
  · subst hc
    have hj : ¬ j' = j := fun e => h ⟨rfl, e⟩
    simp [zU, upd, hj]
  · simp [zU, hc]
theorem zflat_sc (S : zT) {k : Nat} (h : k < 7) : zflat S k = S 0 k := by simp [zflat, h]
theorem zflat_ro (S : zT) {r w : Nat} (hr : r < 6) (hw : w < 2) : zflat S (7 + 2 * r + w) = S (1 + w) r := by
  have h1 : ¬ (7 + 2 * r + w < 7) := by omega
  have h2 : 7 + 2 * r + w < 19 := by omega
  have h3 : (7 + 2 * r + w - 7) % 2 = w := by omega
  have h4 : (7 + 2 * r + w - 7) / 2 = r := by omega
  simp only [zflat, h1, h2, h3, h4, if_true, if_false]
theorem zflat_it (S : zT) {h w : Nat} (hw : w < 6) : zflat S (19 + 6 * h + w) = S (3 + w) h := by
  have h1 : ¬ (19 + 6 * h + w < 7) := by omega
  have h2 : ¬ (19 + 6 * h + w < 19) := by omega
  have h3 : (19 + 6 * h + w - 19) % 6 = w := by omega
  have h4 : (19 + 6 * h + w - 19) / 6 = h := by omega
  simp only [zflat, h1, h2, h3, h4, if_false]
theorem zflat_u (S : zT) {k c j : Nat} (v : Int32) (hs : ∀ T : zT, zflat T k = T c j) (ho : ∀ i, i ≠ k → ∃ c' j', (∀ T : zT, zflat T i = T c' j') ∧ ¬ (c' = c ∧ j' = j)) : upd (zflat S) k v = zflat (zU S c j v) := by
  funext i
  by_cases hi : i = k
  · subst hi; rw [hs, zU_at]; simp [upd]
  · obtain ⟨c', j', h1, h2⟩ := ho i hi
    rw [h1, zU_ne S v h2, ← h1 S]; simp [upd, hi]
theorem zflat_ix (i : Nat) : ∃ c' j', (∀ T : zT, zflat T i = T c' j') ∧ ((i < 7 ∧ c' = 0 ∧ j' = i) ∨ (7 ≤ i ∧ i < 19 ∧ c' = 1 + (i - 7) % 2 ∧ j' = (i - 7) / 2) ∨ (19 ≤ i ∧ c' = 3 + (i - 19) % 6 ∧ j' = (i - 19) / 6)) := by
  by_cases h1 : i < 7
  · exact ⟨0, i, fun T => by simp [zflat, h1], Or.inl ⟨h1, rfl, rfl⟩⟩
  · by_cases h2 : i < 19
    · exact ⟨_, _, fun T => by simp only [zflat, h1, h2, if_true, if_false], Or.inr (Or.inl ⟨by omega, h2, rfl, rfl⟩)⟩
    · exact ⟨_, _, fun T => by simp only [zflat, h1, h2, if_false], Or.inr (Or.inr ⟨by omega, rfl, rfl⟩)⟩
theorem zflat_usc (S : zT) {k : Nat} (v : Int32) (h : k < 7) : upd (zflat S) k v = zflat (zU S 0 k v) := by
  refine zflat_u S v (fun T => zflat_sc T h) (fun i hi => ?_)
  obtain ⟨c', j', h1, h2⟩ := zflat_ix i
  exact ⟨c', j', h1, by omega⟩
theorem zflat_uro (S : zT) {r w : Nat} (v : Int32) (hr : r < 6) (hw : w < 2) : upd (zflat S) (7 + 2 * r + w) v = zflat (zU S (1 + w) r v) := by
  refine zflat_u S v (fun T => zflat_ro T hr hw) (fun i hi => ?_)
  obtain ⟨c', j', h1, h2⟩ := zflat_ix i
  exact ⟨c', j', h1, by omega⟩
theorem zflat_uit (S : zT) {h w : Nat} (v : Int32) (hw : w < 6) : upd (zflat S) (19 + 6 * h + w) v = zflat (zU S (3 + w) h v) := by
  refine zflat_u S v (fun T => zflat_it T hw) (fun i hi => ?_)
  obtain ⟨c', j', h1, h2⟩ := zflat_ix i
  exact ⟨c', j', h1, by omega⟩
/-- a town of the class -/
def zTW (x : zX) (t : Nat → Nat) (S : zT) (lk : Int32) : va_W := [(t 0, .inr (2, [.int (S 0 1), .int (S 0 2), .int (S 0 3), .int (S 0 4), .int (S 0 5), .int (S 0 6), .int lk, .ref (t 1), .ref (t 2), .int (S 0 0), .ref (t 3), .ref (t 4), .ref (t 5), .ref (t 6), .ref (t 7), .ref (t 8)])), (t 1, .inl (zI x, 6, .inl (S 1))), (t 2, .inl (zI x, 6, .inl (S 2))), (t 3, .inl (zI x, 8, .inl (S 3))), (t 4, .inl (zI x, 8, .inl (S 4))), (t 5, .inl (zI x, 8, .inl (S 5))), (t 6, .inl (zI x, 8, .inl (S 6))), (t 7, .inl (zI x, 8, .inl (S 7))), (t 8, .inl (zI x, 8, .inl (S 8)))]
/-- the reference: f what s holds; g 2 keptS, 3 other, 4 aside, 5 statuses, 6 tape, 7 bitsOf, 8 sizeOf; nu 0 numbers, 1 moved; q 0 isKept, 1 taped, 2 from, 3 to, 4 value, 5 isWrong -/
def zMW (x : zX) (a : Nat → Nat) (q : Nat → Int32) (g : zT) (nu : Nat → Nat → Int64) (f : Nat → Int32) : va_W := [(a 0, .inr (4, [.ref (a 1), .ref (a 2), .ref (a 3), .ref (a 4), .ref (a 5), .int (q 0), .ref (a 6), .int (q 1), .int (q 2), .int (q 3), .int (q 4), .int (q 5), .ref (a 7), .ref (a 8), .ref (a 9), .ref (a 10)])), (a 1, .inl (zI x, 67, .inl f)), (a 2, .inl (zI x, 67, .inl (g 2))), (a 3, .inl (zI x, 67, .inl (g 3))), (a 4, .inl (zI x, 67, .inl (g 4))), (a 5, .inl (zI x, 7, .inl (g 5))), (a 6, .inl (zI x, 120, .inl (g 6))), (a 7, .inl (zI x, 4, .inl (g 7))), (a 8, .inl (zI x, 4, .inl (g 8))), (a 9, .inl (zJ x, 160, .inr (.inl (nu 0)))), (a 10, .inl (zJ x, 40, .inr (.inl (nu 1))))]
/-- numbers within bounds -/
def zIn (v : Int32) (b : Nat) : Prop := ∃ n : Nat, n ≤ b ∧ v = nI n
def zbd (c j : Nat) : Nat := if c = 0 then (if j = 0 then 8 else if j = 4 then 6 else if j = 5 then 1 else 99999) else if c = 1 then 99 else if c = 2 then 1 else if c = 3 then 5 else if c = 4 then 5 else if c = 5 then 99 else if c = 6 then 2 else if c = 7 then 999 else 1
def zln (c : Nat) : Nat := if c = 0 then 7 else if c < 3 then 6 else 8
def zInv (S : zT) : Prop := ∀ c j, c < 9 → j < zln c → ¬ (c = 0 ∧ (j = 1 ∨ j = 6)) → zIn (S c j) (zbd c j)
theorem zInv.u {S : zT} (h : zInv S) {c j : Nat} {v : Int32} (hv : (c = 0 ∧ (j = 1 ∨ j = 6)) ∨ zIn v (zbd c j)) : zInv (zU S c j v) := by
  intro c' j' h1 h2 h3
  by_cases e : c' = c ∧ j' = j
  · obtain ⟨rfl, rfl⟩ := e
    rw [zU_at]
    rcases hv with hv | hv
    · exact absurd hv h3
    · exact hv
  · rw [zU_ne S v e]; exact h c' j' h1 h2 h3
theorem zInv.holes {S : zT} (h : zInv S) : ∃ n : Nat, n ≤ 8 ∧ S 0 0 = nI n := h 0 0 (by decide) (by decide) (by decide)
theorem zInv.col {S : zT} (h : zInv S) (c j : Nat) (hc : 0 < c) (hc2 : c < 9) (hj : j < zln c) : ∃ n : Nat, n ≤ zbd c j ∧ S c j = nI n := h c j hc2 hj (by omega)
/-- answers of tests -/
def zb (p : Prop) [Decidable p] : Int32 := if p then 1 else 0
theorem zb_t {p : Prop} [Decidable p] (h : p) : zb p = 1 := if_pos h
theorem zb_f {p : Prop} [Decidable p] (h : ¬ p) : zb p = 0 := if_neg h
theorem zb_0 {p : Prop} [Decidable p] : zb p = 0 ↔ ¬ p := by unfold zb; by_cases h : p <;> simp [h]
theorem zb_n0 {p : Prop} [Decidable p] : ¬ zb p = 0 ↔ p := by unfold zb; by_cases h : p <;> simp [h]
theorem zb2i_nar (p : Prop) [Decidable p] : narrow .boolean (.int (zb p)) = .int (zb p) := by unfold zb; by_cases h : p <;> simp [h] <;> decide
theorem zmath : Cond.initialized "java/lang/Math" ∈ zGW := zgw (i := 59) (by decide +kernel) rfl
theorem zti {y z : Int32} (h : ¬ y = z) : y.toInt ≠ z.toInt := fun e => h (Int32.toInt_inj.mp e)
theorem zout1 {y : Int32} (k0 : ¬ y = 0) : y.toInt < 0 ∨ 0 < y.toInt := by
  have h0 : y.toInt ≠ 0 := zti k0
  omega
theorem zout2 {y : Int32} (k0 : ¬ y = 0) (k1 : ¬ y = 1) : y.toInt < 0 ∨ 1 < y.toInt := by
  have h0 : y.toInt ≠ 0 := zti k0
  have h1 : y.toInt ≠ 1 := zti k1
  omega
theorem zout3 {y : Int32} (k0 : ¬ y = 0) (k1 : ¬ y = 1) (k2 : ¬ y = 2) : y.toInt < 0 ∨ 2 < y.toInt := by
  have h0 : y.toInt ≠ 0 := zti k0
  have h1 : y.toInt ≠ 1 := zti k1
  have h2 : y.toInt ≠ 2 := zti k2
  omega
theorem zout4 {y : Int32} (k0 : ¬ y = 0) (k1 : ¬ y = 1) (k2 : ¬ y = 2) (k3 : ¬ y = 3) : y.toInt < 0 ∨ 3 < y.toInt := by
  have h0 : y.toInt ≠ 0 := zti k0
  have h1 : y.toInt ≠ 1 := zti k1
  have h2 : y.toInt ≠ 2 := zti k2
  have h3 : y.toInt ≠ 3 := zti k3
  omega
theorem zout5 {y : Int32} (k0 : ¬ y = 0) (k1 : ¬ y = 1) (k2 : ¬ y = 2) (k3 : ¬ y = 3) (k4 : ¬ y = 4) : y.toInt < 0 ∨ 4 < y.toInt := by
  have h0 : y.toInt ≠ 0 := zti k0
  have h1 : y.toInt ≠ 1 := zti k1
  have h2 : y.toInt ≠ 2 := zti k2
  have h3 : y.toInt ≠ 3 := zti k3
  have h4 : y.toInt ≠ 4 := zti k4
  omega
theorem zout6 {y : Int32} (k0 : ¬ y = 0) (k1 : ¬ y = 1) (k2 : ¬ y = 2) (k3 : ¬ y = 3) (k4 : ¬ y = 4) (k5 : ¬ y = 5) : y.toInt < 0 ∨ 5 < y.toInt := by
  have h0 : y.toInt ≠ 0 := zti k0
  have h1 : y.toInt ≠ 1 := zti k1
  have h2 : y.toInt ≠ 2 := zti k2
  have h3 : y.toInt ≠ 3 := zti k3
  have h4 : y.toInt ≠ 4 := zti k4
  have h5 : y.toInt ≠ 5 := zti k5
  omega
theorem zout7 {y : Int32} (k0 : ¬ y = 0) (k1 : ¬ y = 1) (k2 : ¬ y = 2) (k3 : ¬ y = 3) (k4 : ¬ y = 4) (k5 : ¬ y = 5) (k6 : ¬ y = 6) : y.toInt < 0 ∨ 6 < y.toInt := by
  have h0 : y.toInt ≠ 0 := zti k0
  have h1 : y.toInt ≠ 1 := zti k1
  have h2 : y.toInt ≠ 2 := zti k2
  have h3 : y.toInt ≠ 3 := zti k3
  have h4 : y.toInt ≠ 4 := zti k4
  have h5 : y.toInt ≠ 5 := zti k5
  have h6 : y.toInt ≠ 6 := zti k6
  omega
theorem zout8 {y : Int32} (k0 : ¬ y = 0) (k1 : ¬ y = 1) (k2 : ¬ y = 2) (k3 : ¬ y = 3) (k4 : ¬ y = 4) (k5 : ¬ y = 5) (k6 : ¬ y = 6) (k7 : ¬ y = 7) : y.toInt < 0 ∨ 7 < y.toInt := by
  have h0 : y.toInt ≠ 0 := zti k0
  have h1 : y.toInt ≠ 1 := zti k1
  have h2 : y.toInt ≠ 2 := zti k2
  have h3 : y.toInt ≠ 3 := zti k3
  have h4 : y.toInt ≠ 4 := zti k4
  have h5 : y.toInt ≠ 5 := zti k5
  have h6 : y.toInt ≠ 6 := zti k6
  have h7 : y.toInt ≠ 7 := zti k7
  omega
theorem zout9 {y : Int32} (k0 : ¬ y = 0) (k1 : ¬ y = 1) (k2 : ¬ y = 2) (k3 : ¬ y = 3) (k4 : ¬ y = 4) (k5 : ¬ y = 5) (k6 : ¬ y = 6) (k7 : ¬ y = 7) (k8 : ¬ y = 8) : y.toInt < 0 ∨ 8 < y.toInt := by
  have h0 : y.toInt ≠ 0 := zti k0
  have h1 : y.toInt ≠ 1 := zti k1
  have h2 : y.toInt ≠ 2 := zti k2
  have h3 : y.toInt ≠ 3 := zti k3
  have h4 : y.toInt ≠ 4 := zti k4
  have h5 : y.toInt ≠ 5 := zti k5
  have h6 : y.toInt ≠ 6 := zti k6
  have h7 : y.toInt ≠ 7 := zti k7
  have h8 : y.toInt ≠ 8 := zti k8
  omega
theorem zout10 {y : Int32} (k0 : ¬ y = 0) (k1 : ¬ y = 1) (k2 : ¬ y = 2) (k3 : ¬ y = 3) (k4 : ¬ y = 4) (k5 : ¬ y = 5) (k6 : ¬ y = 6) (k7 : ¬ y = 7) (k8 : ¬ y = 8) (k9 : ¬ y = 9) : y.toInt < 0 ∨ 9 < y.toInt := by
  have h0 : y.toInt ≠ 0 := zti k0
  have h1 : y.toInt ≠ 1 := zti k1
  have h2 : y.toInt ≠ 2 := zti k2
  have h3 : y.toInt ≠ 3 := zti k3
  have h4 : y.toInt ≠ 4 := zti k4
  have h5 : y.toInt ≠ 5 := zti k5
  have h6 : y.toInt ≠ 6 := zti k6
  have h7 : y.toInt ≠ 7 := zti k7
  have h8 : y.toInt ≠ 8 := zti k8
  have h9 : y.toInt ≠ 9 := zti k9
  omega
theorem zout11 {y : Int32} (k0 : ¬ y = 0) (k1 : ¬ y = 1) (k2 : ¬ y = 2) (k3 : ¬ y = 3) (k4 : ¬ y = 4) (k5 : ¬ y = 5) (k6 : ¬ y = 6) (k7 : ¬ y = 7) (k8 : ¬ y = 8) (k9 : ¬ y = 9) (k10 : ¬ y = 10) : y.toInt < 0 ∨ 10 < y.toInt := by
  have h0 : y.toInt ≠ 0 := zti k0
  have h1 : y.toInt ≠ 1 := zti k1
  have h2 : y.toInt ≠ 2 := zti k2
  have h3 : y.toInt ≠ 3 := zti k3
  have h4 : y.toInt ≠ 4 := zti k4
  have h5 : y.toInt ≠ 5 := zti k5
  have h6 : y.toInt ≠ 6 := zti k6
  have h7 : y.toInt ≠ 7 := zti k7
  have h8 : y.toInt ≠ 8 := zti k8
  have h9 : y.toInt ≠ 9 := zti k9
  have h10 : y.toInt ≠ 10 := zti k10
  omega
theorem zoutp1 {y : Int32} (k1 : ¬ y = 1) : y.toInt < 1 ∨ 1 < y.toInt := by
  have h1 : y.toInt ≠ 1 := zti k1
  omega
theorem zoutp2 {y : Int32} (k1 : ¬ y = 1) (k2 : ¬ y = 2) : y.toInt < 1 ∨ 2 < y.toInt := by
  have h1 : y.toInt ≠ 1 := zti k1
  have h2 : y.toInt ≠ 2 := zti k2
  omega
theorem zoutp3 {y : Int32} (k1 : ¬ y = 1) (k2 : ¬ y = 2) (k3 : ¬ y = 3) : y.toInt < 1 ∨ 3 < y.toInt := by
  have h1 : y.toInt ≠ 1 := zti k1
  have h2 : y.toInt ≠ 2 := zti k2
  have h3 : y.toInt ≠ 3 := zti k3
  omega
theorem zoutp4 {y : Int32} (k1 : ¬ y = 1) (k2 : ¬ y = 2) (k3 : ¬ y = 3) (k4 : ¬ y = 4) : y.toInt < 1 ∨ 4 < y.toInt := by
  have h1 : y.toInt ≠ 1 := zti k1
  have h2 : y.toInt ≠ 2 := zti k2
  have h3 : y.toInt ≠ 3 := zti k3
  have h4 : y.toInt ≠ 4 := zti k4
  omega
theorem zoutp5 {y : Int32} (k1 : ¬ y = 1) (k2 : ¬ y = 2) (k3 : ¬ y = 3) (k4 : ¬ y = 4) (k5 : ¬ y = 5) : y.toInt < 1 ∨ 5 < y.toInt := by
  have h1 : y.toInt ≠ 1 := zti k1
  have h2 : y.toInt ≠ 2 := zti k2
  have h3 : y.toInt ≠ 3 := zti k3
  have h4 : y.toInt ≠ 4 := zti k4
  have h5 : y.toInt ≠ 5 := zti k5
  omega
theorem zoutp6 {y : Int32} (k1 : ¬ y = 1) (k2 : ¬ y = 2) (k3 : ¬ y = 3) (k4 : ¬ y = 4) (k5 : ¬ y = 5) (k6 : ¬ y = 6) : y.toInt < 1 ∨ 6 < y.toInt := by
  have h1 : y.toInt ≠ 1 := zti k1
  have h2 : y.toInt ≠ 2 := zti k2
  have h3 : y.toInt ≠ 3 := zti k3
  have h4 : y.toInt ≠ 4 := zti k4
  have h5 : y.toInt ≠ 5 := zti k5
  have h6 : y.toInt ≠ 6 := zti k6
  omega
theorem zoutp7 {y : Int32} (k1 : ¬ y = 1) (k2 : ¬ y = 2) (k3 : ¬ y = 3) (k4 : ¬ y = 4) (k5 : ¬ y = 5) (k6 : ¬ y = 6) (k7 : ¬ y = 7) : y.toInt < 1 ∨ 7 < y.toInt := by
  have h1 : y.toInt ≠ 1 := zti k1
  have h2 : y.toInt ≠ 2 := zti k2
  have h3 : y.toInt ≠ 3 := zti k3
  have h4 : y.toInt ≠ 4 := zti k4
  have h5 : y.toInt ≠ 5 := zti k5
  have h6 : y.toInt ≠ 6 := zti k6
  have h7 : y.toInt ≠ 7 := zti k7
  omega
theorem zoutp8 {y : Int32} (k1 : ¬ y = 1) (k2 : ¬ y = 2) (k3 : ¬ y = 3) (k4 : ¬ y = 4) (k5 : ¬ y = 5) (k6 : ¬ y = 6) (k7 : ¬ y = 7) (k8 : ¬ y = 8) : y.toInt < 1 ∨ 8 < y.toInt := by
  have h1 : y.toInt ≠ 1 := zti k1
  have h2 : y.toInt ≠ 2 := zti k2
  have h3 : y.toInt ≠ 3 := zti k3
  have h4 : y.toInt ≠ 4 := zti k4
  have h5 : y.toInt ≠ 5 := zti k5
  have h6 : y.toInt ≠ 6 := zti k6
  have h7 : y.toInt ≠ 7 := zti k7
  have h8 : y.toInt ≠ 8 := zti k8
  omega
theorem zoutp9 {y : Int32} (k1 : ¬ y = 1) (k2 : ¬ y = 2) (k3 : ¬ y = 3) (k4 : ¬ y = 4) (k5 : ¬ y = 5) (k6 : ¬ y = 6) (k7 : ¬ y = 7) (k8 : ¬ y = 8) (k9 : ¬ y = 9) : y.toInt < 1 ∨ 9 < y.toInt := by
  have h1 : y.toInt ≠ 1 := zti k1
  have h2 : y.toInt ≠ 2 := zti k2
  have h3 : y.toInt ≠ 3 := zti k3
  have h4 : y.toInt ≠ 4 := zti k4
  have h5 : y.toInt ≠ 5 := zti k5
  have h6 : y.toInt ≠ 6 := zti k6
  have h7 : y.toInt ≠ 7 := zti k7
  have h8 : y.toInt ≠ 8 := zti k8
  have h9 : y.toInt ≠ 9 := zti k9
  omega
theorem zoutp10 {y : Int32} (k1 : ¬ y = 1) (k2 : ¬ y = 2) (k3 : ¬ y = 3) (k4 : ¬ y = 4) (k5 : ¬ y = 5) (k6 : ¬ y = 6) (k7 : ¬ y = 7) (k8 : ¬ y = 8) (k9 : ¬ y = 9) (k10 : ¬ y = 10) : y.toInt < 1 ∨ 10 < y.toInt := by
  have h1 : y.toInt ≠ 1 := zti k1
  have h2 : y.toInt ≠ 2 := zti k2
  have h3 : y.toInt ≠ 3 := zti k3
  have h4 : y.toInt ≠ 4 := zti k4
  have h5 : y.toInt ≠ 5 := zti k5
  have h6 : y.toInt ≠ 6 := zti k6
  have h7 : y.toInt ≠ 7 := zti k7
  have h8 : y.toInt ≠ 8 := zti k8
  have h9 : y.toInt ≠ 9 := zti k9
  have h10 : y.toInt ≠ 10 := zti k10
  omega
theorem zoutp11 {y : Int32} (k1 : ¬ y = 1) (k2 : ¬ y = 2) (k3 : ¬ y = 3) (k4 : ¬ y = 4) (k5 : ¬ y = 5) (k6 : ¬ y = 6) (k7 : ¬ y = 7) (k8 : ¬ y = 8) (k9 : ¬ y = 9) (k10 : ¬ y = 10) (k11 : ¬ y = 11) : y.toInt < 1 ∨ 11 < y.toInt := by
  have h1 : y.toInt ≠ 1 := zti k1
  have h2 : y.toInt ≠ 2 := zti k2
  have h3 : y.toInt ≠ 3 := zti k3
  have h4 : y.toInt ≠ 4 := zti k4
  have h5 : y.toInt ≠ 5 := zti k5
  have h6 : y.toInt ≠ 6 := zti k6
  have h7 : y.toInt ≠ 7 := zti k7
  have h8 : y.toInt ≠ 8 := zti k8
  have h9 : y.toInt ≠ 9 := zti k9
  have h10 : y.toInt ≠ 10 := zti k10
  have h11 : y.toInt ≠ 11 := zti k11
  omega
