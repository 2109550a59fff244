/-! THE REFERENCE: rows over its one row -/
section ROWS2
variable {p : Program} {e : Env} {R : Room} {s : State} {m : MethodId} {args : Array Value} {below : List Frame} {meth : Method} {c : Code} {H H0 : Heap} {locs : List Loc} {cells slots : Nat} {Q : State → Prop} {x : zX} {A : Nat → Prop} {ls : Array Slot} {pc : Nat} {cc : ByteArray} {rest : List Value} {ws : va_W} {a : Nat}
theorem zial2 (hx : p.tables.exec = Jvm.exec) (hb : c.code = cc) (hK : va_K (zD x) vwCl (zTy x) s) (hw : zHw x A H0 ws H locs) (q0 t0 j : Nat) {cA : ClassId} {n : Nat} {f : Nat → Int32} (ha : ws[q0]? = some (a, .inl (cA, n, .inl f))) (ht : (zTy x)[t0]? = some (cA, .int)) {i : Int32} (hi : i = nI j) (hj : j < n) (hn : n < 2147483648) (hdg : decode cc pc = .ok (.iaload, 1)) {v : Int32} (hv : f j = v)
    (kk : W p x.1 e R s m args below meth c H locs cells slots Q (F0 m (pc + 1) ls (.int v :: rest))) : W p x.1 e R s m args below meth c H locs cells slots Q (F0 m pc ls (.int i :: .ref a :: rest)) :=
  zial hx hb hK hw q0 t0 j ha ht hi hj hn hdg (by rw [hv]; exact kk)
theorem zias2 (hx : p.tables.exec = Jvm.exec) (hb : c.code = cc) (hK : va_K (zD x) vwCl (zTy x) s) (hw : zHw x A H0 ws H locs) (q0 t0 j : Nat) {cA : ClassId} {n : Nat} {f : Nat → Int32} (ha : ws[q0]? = some (a, .inl (cA, n, .inl f))) (ht : (zTy x)[t0]? = some (cA, .int)) {i z : Int32} (hi : i = nI j) (hj : j < n) (hn : n < 2147483648) (hdg : decode cc pc = .ok (.iastore, 1)) {f' : Nat → Int32} (hf : upd f j z = f')
    (kk : ∀ (H1 : Heap) (locs1 : List Loc), zHw x A H0 (ws.set q0 (a, .inl (cA, n, .inl f'))) H1 locs1 → W p x.1 e R s m args below meth c H1 locs1 cells slots Q (F0 m (pc + 1) ls rest)) : W p x.1 e R s m args below meth c H locs cells slots Q (F0 m pc ls (.int z :: .int i :: .ref a :: rest)) :=
  zias hx hb hK hw q0 t0 j ha ht hi hj hn hdg (by rw [hf]; exact kk)
end ROWS2
def zfill (f g : Nat → Int32) (k : Nat) : Nat → Int32 := fun i => if i < k then f i else g i
theorem zfill_s (f g : Nat → Int32) (k : Nat) : upd (zfill f g k) k (f k) = zfill f g (k + 1) := by
  funext i
  unfold upd zfill
  by_cases h : i = k
  · subst h; simp
  · have : (i < k + 1) ↔ i < k := by omega
    simp [h, this]
theorem zfill_0 (f g : Nat → Int32) : zfill f g 0 = g := by funext i; simp [zfill]
theorem zV_U (S : zT) (c j : Nat) (f : Nat → Int32) (v : Int32) : zU (zV S c f) c j v = zV S c (upd f j v) := by
  funext c'
  unfold zU zV
  by_cases h : c' = c <;> simp [h]
theorem zV_self (S : zT) (c : Nat) : zV S c (S c) = S := by funext c'; unfold zV; by_cases h : c' = c <;> simp [h]
theorem zU_self (S : zT) (c j : Nat) : zU S c j (S c j) = S := by
  funext c' j'
  by_cases h : c' = c ∧ j' = j
  · obtain ⟨rfl, rfl⟩ := h; exact zU_at _ _ _ _
  · exact zU_ne S _ h
theorem zspot (h w : Nat) : (19 : Int32) + 6 * nI h + nI w = nI (19 + 6 * h + w) := by
  show nI 19 + nI 6 * nI h + nI w = _
  rw [pk_mul, nI_add, nI_add]
theorem zroad (r w : Nat) : (7 : Int32) + 2 * nI r + nI w = nI (7 + 2 * r + w) := by
  show nI 7 + nI 2 * nI r + nI w = _
  rw [pk_mul, nI_add, nI_add]
theorem zwle (y z : Int32) : y.toInt64 ≤ z.toInt64 ↔ y ≤ z := by rw [Int64.le_iff_toInt_le, Int32.le_iff_toInt_le, Int32.toInt_toInt64, Int32.toInt_toInt64]
theorem zwlt (y z : Int32) : y.toInt64 < z.toInt64 ↔ y < z := by rw [Int64.lt_iff_toInt_lt, Int32.lt_iff_toInt_lt, Int32.toInt_toInt64, Int32.toInt_toInt64]
theorem zadd0 (y : Int32) : y + 0 = y := Int32.add_zero y
/-- how many bits -/
def zpc (b : Nat) : Nat := (b % 2) + (b / 2 % 2) + (b / 4 % 2) + (b / 8 % 2) + (b / 16 % 2) + (b / 32 % 2) + (b / 64 % 2) + (b / 128 % 2)
def zlow (b : Nat) : Nat := b &&& (b - 1)
theorem zlow_ok : ∀ b, b < 256 → 0 < b → (nI b &&& (nI b - 1) = nI (zlow b) ∧ zlow b < b ∧ zpc (zlow b) + 1 = zpc b) := by decide +kernel
theorem zpc_0 : zpc 0 = 0 := rfl
theorem zor0 (y : Int32) : y ||| 0 = y := Int32.or_zero
/-- a set is a byte -/
def zBn (P : Nat → Bool) : Nat → Nat
  | 0 => 0
  | k + 1 => if P k = true then zBn P k + 2 ^ k else zBn P k
theorem zBn_lt (P : Nat → Bool) : ∀ k, zBn P k < 2 ^ k
  | 0 => Nat.zero_lt_one
  | k + 1 => by
    have h := zBn_lt P k
    unfold zBn
    rw [Nat.pow_succ]
    by_cases c : P k = true
    · rw [if_pos c]; omega
    · rw [if_neg c]; omega
theorem zor_bit : ∀ k, k < 8 → ∀ b, b < 2 ^ k → nI b ||| ((1 : Int32) <<< (nI k &&& 31)) = nI (b + 2 ^ k) := by decide +kernel
theorem zBi_n (P : Nat → Bool) : ∀ k, k ≤ 8 → zBi P k = nI (zBn P k)
  | 0, _ => rfl
  | k + 1, hk => by
    unfold zBi zBn
    rw [zBi_n P k (by omega)]
    by_cases c : P k = true
    · rw [if_pos c, if_pos c]; exact zor_bit k (by omega) _ (zBn_lt P k)
    · rw [if_neg c, if_neg c]
theorem zbit_lt : ∀ k, k < 8 → ∀ b, b < 256 → ((nI b >>> (nI k &&& 31)) &&& 1 = 1 ↔ b / 2 ^ k % 2 = 1) := by decide +kernel
theorem zBn_bit (P : Nat → Bool) (h : Nat) : ∀ k, h < k → (zBn P k / 2 ^ h % 2 = 1 ↔ P h = true)
  | 0, hk => by omega
  | k + 1, hk => by
    have hl := zBn_lt P k
    unfold zBn
    by_cases e : h = k
    · subst e
      by_cases c : P h = true
      · rw [if_pos c]
        have h0 : (zBn P h + 2 ^ h) / 2 ^ h = 1 := by rw [Nat.add_div_right _ (Nat.two_pow_pos h), Nat.div_eq_of_lt hl]
        rw [h0]; simp [c]
      · rw [if_neg c, Nat.div_eq_of_lt hl]; simp [c]
    · have hh : h < k := by omega
      have ih := zBn_bit P h k hh
      by_cases c : P k = true
      · rw [if_pos c]
        obtain ⟨d, rfl⟩ : ∃ d, k = h + 1 + d := ⟨k - h - 1, by omega⟩
        have hp : 2 ^ (h + 1 + d) = 2 ^ h * (2 * 2 ^ d) := by rw [Nat.pow_add, Nat.pow_add, Nat.pow_one, Nat.mul_assoc]
        have h1 : (zBn P (h + 1 + d) + 2 ^ (h + 1 + d)) / 2 ^ h = zBn P (h + 1 + d) / 2 ^ h + 2 * 2 ^ d := by
          conv => lhs; rw [hp]
          rw [Nat.add_mul_div_left _ _ (Nat.two_pow_pos h)]
        rw [h1, Nat.add_mul_mod_self_left]; exact ih
      · rw [if_neg c]; exact ih
/-- a hole is in a set -/
theorem zBi_bit (P : Nat → Bool) {h k : Nat} (hh : h < k) (hk : k ≤ 8) : ((zBi P k >>> (nI h &&& 31)) &&& 1 = 1 ↔ P h = true) := by
  have hl := zBn_lt P k
  have h8 : 2 ^ k ≤ 2 ^ 8 := Nat.pow_le_pow_right (by decide) hk
  rw [zBi_n P k hk, zbit_lt h (by omega) _ (by omega)]
  exact zBn_bit P h k hh
theorem zb_iff {p q : Prop} [Decidable p] [Decidable q] (h : p ↔ q) : zb p = zb q := by unfold zb; by_cases c : p <;> simp [c, ← h]
theorem zlast {w : Int32} (n : Nat) (hn : n ≤ 8) (h0 : w = nI n) (v : Int32) : ((0 : Int64) ≤ v.toInt64 ∧ v.toInt64 ≤ (w - 1).toInt64) ↔ (0 ≤ v ∧ v < w) := by
  have e0 : (0 : Int64) ≤ v.toInt64 ↔ 0 ≤ v := zwle 0 v
  rw [e0, zwle]
  subst h0
  have e1 : (nI n - 1).toInt = (n : Int) - 1 := pk_sub_toInt (a := n) (b := 1) (by omega) (by omega)
  have e2 : (nI n).toInt = (n : Int) := nI_toInt (by omega)
  have e3 : v ≤ nI n - 1 ↔ v < nI n := by
    rw [Int32.le_iff_toInt_le, Int32.lt_iff_toInt_lt, e1, e2]
    omega
  rw [e3]
theorem zhot {S : zT} (hI : zInv S) : S 0 5 = 0 ∨ S 0 5 = 1 := by
  obtain ⟨n, h1, h2⟩ := hI 0 5 (by decide) (by decide) (by decide)
  have h3 : n ≤ 1 := h1
  rcases (show n = 0 ∨ n = 1 by omega) with rfl | rfl
  · exact Or.inl h2
  · exact Or.inr h2
theorem zrung {S : zT} (hI : zInv S) {h : Nat} (hh : h < 8) : S 8 h = 0 ∨ S 8 h = 1 := by
  obtain ⟨n, h1, h2⟩ := hI.col 8 h (by decide) (by decide) hh
  have h3 : n ≤ 1 := h1
  rcases (show n = 0 ∨ n = 1 by omega) with rfl | rfl
  · exact Or.inl h2
  · exact Or.inr h2
theorem zpos_ne {v : Int32} (h : ¬ v ≤ 0) : ¬ v = 0 := fun e => h (by rw [e]; decide)
theorem znp_eq {v : Int32} {b : Nat} (hi : ∃ n : Nat, n ≤ b ∧ v = nI n) (h : v ≤ 0) (hb : b < 1000 := by decide) : v = 0 := by
  obtain ⟨n, h1, rfl⟩ := hi
  have : n ≤ 0 := (nI_leI (a := n) (b := 0) (by omega) (by omega)).mp h
  have e : n = 0 := by omega
  rw [e]; rfl
def zWr (S : zT) : Int32 := zSu (zopn S) (S 5) (zN S)
theorem zV_V (S : zT) (c : Nat) (f g : Nat → Int32) : zV (zV S c f) c g = zV S c g := by
  funext c'
  unfold zV
  by_cases h : c' = c <;> simp [h]
