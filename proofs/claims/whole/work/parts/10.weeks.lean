/-! A TOWN'S WEEKS, as functions of the state -/
def zN (S : zT) : Nat := (S 0 0).toNatClampNeg
theorem zN_of {S : zT} {n : Nat} (hn : n ≤ 8) (h0 : S 0 0 = nI n) : zN S = n := by unfold zN; rw [h0]; exact nI_clamp (by omega)
theorem zkn {v : Int32} {k n : Nat} (h0 : v = nI n) (hn : n < 2147483648) (hk : k ≤ n) (c : ¬ v ≤ nI k) : k < n := by
  rcases Nat.lt_or_ge k n with q | q
  · exact q
  · exact absurd (by rw [h0]; exact nI_le q (by omega)) c
theorem zke {v : Int32} {k n : Nat} (h0 : v = nI n) (hn : n < 2147483648) (hk : k ≤ n) (c : v ≤ nI k) : k = n := by
  rcases Nat.lt_or_ge k n with q | q
  · exact absurd (by rw [h0] at c; exact c) (nI_ge q (by omega))
  · omega
def zWo (S : zT) : Int32 := S 0 1 - S 0 1 / 52 * 52
/-- the street of a hole -/
def zSr (S : zT) (h : Nat) : Nat := (S 4 h).toNatClampNeg
theorem zSr_of {S : zT} (hI : zInv S) {h : Nat} (hh : h < 8) : zSr S h < 6 ∧ S 4 h = nI (zSr S h) := by
  obtain ⟨n, h1, h2⟩ := hI.col 4 h (by decide) (by decide) hh
  have h3 : n ≤ 5 := h1
  have e : zSr S h = n := by unfold zSr; rw [h2]; exact nI_clamp (by omega)
  rw [e]; exact ⟨by omega, h2⟩
def zGs (S : zT) (h : Nat) : Int32 := zGr (S 3 h) (S 5 h) (zWo S) (S 1 (zSr S h))
abbrev zLg (S : zT) (h : Nat) : Prop := ¬ S 2 (zSr S h) = 0
def zPs (S : zT) (h : Nat) (how : Int32) : Int32 := zPr (S 3 h) (S 5 h) how
abbrev zAh (S : zT) (h o : Nat) : Prop := (S 3 h = 4 ∧ ¬ S 3 o = 4) ∨ ((S 3 h = 4 ↔ S 3 o = 4) ∧ ((¬ S 8 h = S 8 o ∧ S 8 o < S 8 h) ∨ (S 8 h = S 8 o ∧ S 5 o < S 5 h)))
/-- open, in a street that isn't let go -/
abbrev zOp (S : zT) (h : Nat) : Prop := S 6 h = 0 ∧ ¬ zLg S h
abbrev zMy (S : zT) (h : Nat) : Prop := zOp S h ∧ zPs S h (S 0 5) ≤ S 0 2
def zBt (S : zT) (h : Nat) (o : Option Nat) : Bool := match o with
  | none => true
  | some b => decide (zAh S h b)
def zNb (S : zT) : Nat → Option Nat
  | 0 => none
  | k + 1 => if zMy S k ∧ zBt S k (zNb S k) = true then some k else zNb S k
def zo (o : Option Nat) : Int32 := match o with
  | none => -1
  | some b => nI b
theorem zNb_lt (S : zT) : ∀ (k b : Nat), zNb S k = some b → b < k ∧ zMy S b
  | 0, b, h => by cases h
  | k + 1, b, h => by
    unfold zNb at h
    by_cases c : zMy S k ∧ zBt S k (zNb S k) = true
    · rw [if_pos c] at h; cases h; exact ⟨by omega, c.1⟩
    · rw [if_neg c] at h
      obtain ⟨h1, h2⟩ := zNb_lt S k b h
      exact ⟨by omega, h2⟩
/-- the least that was wanting -/
def zLk (S : zT) (lk : Int32) : Nat → Int32
  | 0 => lk
  | k + 1 => if zOp S k ∧ S 0 2 < zPs S k (S 0 5) then (if zPs S k (S 0 5) - S 0 2 < zLk S lk k then zPs S k (S 0 5) - S 0 2 else zLk S lk k) else zLk S lk k
def zHt (v b : Int32) : Int32 := if b < v then b else v
def zFi (S : zT) (h : Nat) (how : Int32) : zT := zU (zU (zU (zU (zU S 0 2 (S 0 2 - zPs S h how)) 0 6 (zHt (S 0 6 + zPs S h how) 9999999)) 6 h (if how = 0 then 1 else 2)) 7 h 0) 8 h 0
def zMs : Nat → zT → zT
  | 0, S => S
  | j + 1, S => match zNb S (zN S) with
    | none => S
    | some b => zMs j (zFi S b (S 0 5))
def zMl : Nat → zT → Int32 → Int32
  | 0, _, lk => lk
  | j + 1, S, lk => match zNb S (zN S) with
    | none => zLk S lk (zN S)
    | some b => zMl j (zFi S b (S 0 5)) (zLk S lk (zN S))
def zWe (S : zT) (h : Nat) : zT := if S 6 h = 0 then zU S 5 h (zHt (S 5 h + zGs S h) 99) else
  if zHd (S 3 h) (S 6 h) < zHt (S 7 h + 1) 999 then zU (zU S 7 h (zHt (S 7 h + 1) 999)) 6 h 0 else zU S 7 h (zHt (S 7 h + 1) 999)
def zWs (S : zT) : Nat → zT
  | 0 => S
  | k + 1 => zWe (zWs S k) k
def zMn (S : zT) : Nat := (S 0 4).toNatClampNeg
/-- a week without its end -/
def zWa (S : zT) : zT := zWs (zMs (zMn S) S) (zN S)
def zWn (S : zT) : zT := zU S 0 1 (S 0 1 + 1)
def zWk (S : zT) : zT := if zWo (zWn (zWa S)) = 12 then zU (zWn (zWa S)) 0 2 (zWn (zWa S) 0 3) else zWn (zWa S)
def zGo : Nat → zT → zT
  | 0, S => S
  | n + 1, S => zGo n (zWk S)
def zGl : Nat → zT → Int32 → Int32
  | 0, _, lk => lk
  | n + 1, S, lk => zGl n (zWk S) (zMl (zMn S) S lk)
/-- sets and sums -/
def zBi (P : Nat → Bool) : Nat → Int32
  | 0 => 0
  | k + 1 => if P k = true then zBi P k ||| ((1 : Int32) <<< (nI k &&& 31)) else zBi P k
def zSu (P : Nat → Bool) (f : Nat → Int32) : Nat → Int32
  | 0 => 0
  | k + 1 => if P k = true then zSu P f k + f k else zSu P f k
def zLa (S : zT) (v : Int32) : Nat → zT
  | 0 => S
  | k + 1 => zU (zLa S v k) 2 k (v >>> (nI k &&& 31) &&& 1)
def zAd (S : zT) (kd st : Int32) : zT := zU (zU (zU (zU (zU (zU (zU S 3 (zN S) kd) 4 (zN S) st) 5 (zN S) 5) 6 (zN S) 0) 7 (zN S) 0) 8 (zN S) 0) 0 0 (S 0 0 + 1)
def zopn (S : zT) (h : Nat) : Bool := decide (S 6 h = 0)
/-- what a week keeps -/
theorem zHt_in {v : Int32} {b : Nat} (hb : b < 2147483648) (hv : ∃ n : Nat, n < 2147483648 ∧ v = nI n) : zIn (zHt v (nI b)) b := by
  obtain ⟨n, hn, rfl⟩ := hv
  unfold zHt
  by_cases c : nI b < nI n
  · rw [if_pos c]; exact ⟨b, Nat.le_refl _, rfl⟩
  · rw [if_neg c]
    refine ⟨n, ?_, rfl⟩
    rcases Nat.lt_or_ge b n with q | q
    · exact absurd (nI_lt q hn) c
    · exact q
theorem zCp_pos {k z : Int32} (hz : zIn z 99) : ∃ n : Nat, 1 ≤ n ∧ n ≤ 17 ∧ zCp k z = nI n := by
  obtain ⟨n, hn, rfl⟩ := hz
  have e : nI n / 10 = nI (n / 10) := pk_div (a := n) (d := 10) (by omega) (by omega) (by omega)
  have e5 : (5 : Int32) + nI (n / 10) = nI (5 + n / 10) := nI_add 5 _
  unfold zCp
  rw [e, e5]
  by_cases h1 : k = 1
  · rw [if_pos h1]; exact ⟨5 + n / 10 + 3, by omega, by omega, nI_add _ 3⟩
  · rw [if_neg h1]
    by_cases h2 : k = 2
    · rw [if_pos h2]; exact ⟨2, by omega, by omega, rfl⟩
    · rw [if_neg h2]
      by_cases h4 : k = 4
      · rw [if_pos h4]; exact ⟨5 + n / 10 + 1, by omega, by omega, nI_add _ 1⟩
      · rw [if_neg h4]
        by_cases h5 : k = 5
        · rw [if_pos h5]; exact ⟨3, by omega, by omega, rfl⟩
        · rw [if_neg h5]; exact ⟨5 + n / 10, by omega, by omega, rfl⟩
theorem zPs_pos {S : zT} (hI : zInv S) {h : Nat} (hh : h < 8) (how : Int32) : ∃ n : Nat, 1 ≤ n ∧ n ≤ 187 ∧ zPs S h how = nI n := by
  obtain ⟨n, h1, h2, e⟩ := zCp_pos (k := S 3 h) (hI.col 5 h (by decide) (by decide) hh)
  unfold zPs zPr
  rw [e]
  by_cases c : how = 0
  · rw [if_pos c]; exact ⟨n, h1, by omega, rfl⟩
  · rw [if_neg c]; exact ⟨11 * n, by omega, by omega, pk_mul 11 n⟩
theorem zGs_in {S : zT} (hI : zInv S) {h : Nat} (hh : h < 8) : ∃ n : Nat, n ≤ 20 ∧ zGs S h = nI n := by
  obtain ⟨hr, -⟩ := zSr_of hI hh
  have ht : zIn (S 1 (zSr S h)) 99 := hI.col 1 (zSr S h) (by decide) (by decide) hr
  have hz : zIn (S 5 h) 99 := hI.col 5 h (by decide) (by decide) hh
  obtain ⟨a, a1, a2, ea⟩ := zPl_pos (w := zWo S) ht
  obtain ⟨b, b1, b2, eb⟩ := zBa_pos (w := zWo S) ht hz
  unfold zGs zGr
  rw [eb, ea]
  by_cases h1 : S 3 h = 1
  · rw [if_pos h1]; exact ⟨b, by omega, rfl⟩
  · rw [if_neg h1]
    by_cases h2 : S 3 h = 2
    · rw [if_pos h2]; exact ⟨1, by omega, rfl⟩
    · rw [if_neg h2]
      by_cases h3 : S 3 h = 3
      · rw [if_pos h3]
        by_cases hc : zWo S - zWo S / 9 * 9 = 0
        · rw [if_pos hc]; exact ⟨a + 3, by omega, nI_add a 3⟩
        · rw [if_neg hc]; exact ⟨a + 0, by omega, nI_add a 0⟩
      · rw [if_neg h3]
        by_cases h4 : S 3 h = 4
        · rw [if_pos h4]
          obtain ⟨c, rfl⟩ : ∃ c, b = c + 1 := ⟨b - 1, by omega⟩
          exact ⟨c, by omega, nI_pred c⟩
        · rw [if_neg h4]
          by_cases h5 : S 3 h = 5
          · rw [if_pos h5]
            by_cases hf : zFr (zWo S)
            · rw [if_pos hf]; exact ⟨2, by omega, rfl⟩
            · rw [if_neg hf]; exact ⟨1, by omega, rfl⟩
          · rw [if_neg h5]; exact ⟨a, by omega, rfl⟩
theorem zFi_inv {S : zT} (hI : zInv S) {h : Nat} (hh : h < 8) {how : Int32} (hb : zPs S h how ≤ S 0 2) : zInv (zFi S h how) := by
  obtain ⟨n, h1, h2, e⟩ := zPs_pos hI hh how
  obtain ⟨b, hb1, hb2⟩ := hI 0 2 (by decide) (by decide) (by decide)
  have hb3 : b ≤ 99999 := hb1
  have hnb : n ≤ b := by rw [e, hb2] at hb; exact (nI_leI (by omega) (by omega)).mp hb
  unfold zFi
  refine ((((hI.u (c := 0) (j := 2) (Or.inr ?_)).u (c := 0) (j := 6) (Or.inl ⟨rfl, Or.inr rfl⟩)).u (c := 6) (j := h) (Or.inr ?_)).u (c := 7) (j := h) (Or.inr ?_)).u (c := 8) (j := h) (Or.inr ?_)
  · rw [hb2, e, pk_sub hnb]; exact ⟨b - n, by show b - n ≤ 99999; omega, rfl⟩
  · by_cases c : how = 0
    · rw [if_pos c]; exact ⟨1, (show 1 ≤ 2 by decide), rfl⟩
    · rw [if_neg c]; exact ⟨2, (show 2 ≤ 2 by decide), rfl⟩
  · exact ⟨0, Nat.zero_le _, rfl⟩
  · exact ⟨0, Nat.zero_le _, rfl⟩
theorem zFi_00 (S : zT) (h : Nat) (how : Int32) : zFi S h how 0 0 = S 0 0 := rfl
theorem zFi_04 (S : zT) (h : Nat) (how : Int32) : zFi S h how 0 4 = S 0 4 := rfl
theorem zFi_05 (S : zT) (h : Nat) (how : Int32) : zFi S h how 0 5 = S 0 5 := rfl
theorem zN_le {S : zT} (hI : zInv S) : zN S ≤ 8 := by
  obtain ⟨n, hn, h0⟩ := hI.holes
  rw [zN_of hn h0]; exact hn
theorem zMs_ok : ∀ (j : Nat) {S : zT}, zInv S → zInv (zMs j S) ∧ zMs j S 0 0 = S 0 0 ∧ zMs j S 0 4 = S 0 4
  | 0, S, hI => ⟨hI, rfl, rfl⟩
  | j + 1, S, hI => by
    unfold zMs
    cases hb : zNb S (zN S) with
    | none => exact ⟨hI, rfl, rfl⟩
    | some b =>
      obtain ⟨h1, h2⟩ := zNb_lt S _ b hb
      have h8 := zN_le hI
      obtain ⟨q1, q2, q3⟩ := zMs_ok j (S := zFi S b (S 0 5)) (zFi_inv hI (by omega) h2.2)
      exact ⟨q1, q2, q3⟩
theorem zWe_inv {S : zT} (hI : zInv S) {h : Nat} (hh : h < 8) : zInv (zWe S h) := by
  unfold zWe
  by_cases c : S 6 h = 0
  · rw [if_pos c]
    refine hI.u (Or.inr ?_)
    obtain ⟨n, hn, e⟩ := zGs_in hI hh
    obtain ⟨b, hb, e2⟩ := hI.col 5 h (by decide) (by decide) hh
    have hb' : b ≤ 99 := hb
    exact zHt_in (b := 99) (by decide) ⟨b + n, by omega, by rw [e, e2, nI_add]⟩
  · rw [if_neg c]
    obtain ⟨b, hb, e2⟩ := hI.col 7 h (by decide) (by decide) hh
    have hb' : b ≤ 999 := hb
    have ha : zIn (zHt (S 7 h + 1) 999) 999 := zHt_in (b := 999) (by decide) ⟨b + 1, by omega, by rw [e2, nI_1]⟩
    by_cases d : zHd (S 3 h) (S 6 h) < zHt (S 7 h + 1) 999
    · rw [if_pos d]; exact (hI.u (Or.inr ha)).u (Or.inr ⟨0, Nat.zero_le _, rfl⟩)
    · rw [if_neg d]; exact hI.u (Or.inr ha)
theorem zWe_0 (S : zT) (h k : Nat) : zWe S h 0 k = S 0 k := by
  unfold zWe
  by_cases c : S 6 h = 0
  · rw [if_pos c]; rfl
  · rw [if_neg c]
    by_cases d : zHd (S 3 h) (S 6 h) < zHt (S 7 h + 1) 999
    · rw [if_pos d]; rfl
    · rw [if_neg d]; rfl
theorem zWs_ok {S : zT} (hI : zInv S) : ∀ k, k ≤ 8 → zInv (zWs S k) ∧ ∀ i, zWs S k 0 i = S 0 i
  | 0, _ => ⟨hI, fun _ => rfl⟩
  | k + 1, hk => by
    obtain ⟨h1, h2⟩ := zWs_ok hI k (by omega)
    exact ⟨zWe_inv h1 (by omega), fun i => (zWe_0 _ _ _).trans (h2 i)⟩
theorem zWk_ok {S : zT} (hI : zInv S) : zInv (zWk S) ∧ zWk S 0 0 = S 0 0 := by
  obtain ⟨h1, h2, h3⟩ := zMs_ok (zMn S) hI
  obtain ⟨h4, h5⟩ := zWs_ok h1 (zN S) (zN_le hI)
  have h6 : zInv (zWn (zWa S)) := h4.u (Or.inl ⟨rfl, Or.inl rfl⟩)
  have h7 : zWn (zWa S) 0 0 = S 0 0 := (h5 0).trans h2
  unfold zWk
  by_cases c : zWo (zWn (zWa S)) = 12
  · rw [if_pos c]; exact ⟨h6.u (Or.inr (h6 0 3 (by decide) (by decide) (by decide))), h7⟩
  · rw [if_neg c]; exact ⟨h6, h7⟩
theorem zGo_ok : ∀ (n : Nat) {S : zT}, zInv S → zInv (zGo n S) ∧ zGo n S 0 0 = S 0 0
  | 0, S, hI => ⟨hI, rfl⟩
  | n + 1, S, hI => by
    obtain ⟨h1, h2⟩ := zWk_ok hI
    obtain ⟨h3, h4⟩ := zGo_ok n h1
    exact ⟨h3, h4.trans h2⟩
theorem zN_eq {S T : zT} (h : T 0 0 = S 0 0) : zN T = zN S := by unfold zN; rw [h]
theorem zNb_neg {S : zT} {k : Nat} (h : ¬ (zMy S k ∧ zBt S k (zNb S k) = true)) : zNb S (k + 1) = zNb S k := if_neg h
theorem zNb_pos {S : zT} {k : Nat} (h : zMy S k) (h2 : zBt S k (zNb S k) = true) : zNb S (k + 1) = some k := if_pos ⟨h, h2⟩
theorem zLk_neg {S : zT} {lk : Int32} {k : Nat} (h : ¬ (zOp S k ∧ S 0 2 < zPs S k (S 0 5))) : zLk S lk (k + 1) = zLk S lk k := if_neg h
theorem zLk_pos {S : zT} {lk : Int32} {k : Nat} (h : zOp S k ∧ S 0 2 < zPs S k (S 0 5)) : zLk S lk (k + 1) = (if zPs S k (S 0 5) - S 0 2 < zLk S lk k then zPs S k (S 0 5) - S 0 2 else zLk S lk k) := if_pos h
