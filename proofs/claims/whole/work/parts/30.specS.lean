/-! SHEETS -/
abbrev zNN : Type := Nat → Nat → Int64
/-- the numbers of all sheets in one row -/
def zfl (nn : zNN) : Nat → Int64 := fun k => nn (k / 40) (k % 40)
theorem zfl_at (nn : zNN) {i k : Nat} (hk : k < 40) : zfl nn (40 * i + k) = nn i k := by
  unfold zfl
  rw [Nat.mul_add_div (by decide), Nat.div_eq_of_lt hk, Nat.mul_add_mod, Nat.mod_eq_of_lt hk]; rfl
theorem zUL_at (S : zNN) (c j : Nat) (v : Int64) : zUL S c j v c j = v := by simp [zUL, vp_updL]
theorem zUL_ne (S : zNN) {c j c' j' : Nat} (v : Int64) (h : ¬ (c' = c ∧ j' = j)) : zUL S c j v c' j' = S c' j' := by
  by_cases hc : c' = c
  · subst hc
    have hj : ¬ j' = j := fun e => h ⟨rfl, e⟩
    simp [zUL, vp_updL, hj]
  · simp [zUL, hc]
theorem zfl_u (nn : zNN) {i k : Nat} (v : Int64) (hk : k < 40) : vp_updL (zfl nn) (40 * i + k) v = zfl (zUL nn i k v) := by
  funext j
  unfold vp_updL
  by_cases h : j = 40 * i + k
  · subst h
    rw [if_pos rfl, zfl_at _ hk, zUL_at]
  · rw [if_neg h]
    unfold zfl
    rw [zUL_ne]
    rintro ⟨h1, h2⟩
    exact h (by omega)
abbrev z4 (v : Int32) : Prop := 0 ≤ v ∧ v < 4
abbrev zbt (v : Int32) : Prop := v = 0 ∨ v = 8 ∨ v = 16 ∨ v = 64
/-- a number cut to its bits -/
def zna (bi : Int32) (v : Int64) : Int64 := if bi = 8 then v.toInt32.toInt8.toInt32.toInt64 else if bi = 16 then v.toInt32.toInt16.toInt32.toInt64 else v
def zVL (nn : zNN) (i : Nat) (f : Nat → Int64) : zNN := fun c => if c = i then f else nn c
abbrev zC : Type := Int32 × (Nat → Int32) × (Nat → Int32) × zNN × (Nat → Int32)
def zm_sheet (bo so : Nat → Int32) (nn : zNN) (fd : Nat → Int32) (y bi n : Int32) : zC :=
  if z4 y ∧ zbt bi then (if n < 0 then (-1000000007, bo, so, nn, zFd fd 6) else if 40 < n then (-1000000001, bo, so, nn, zFd fd 0) else ((if bi = 0 then 0 else n), upd bo (zc y) bi, upd so (zc y) (if bi = 0 then 0 else n), zVL nn (zc y) (fun _ => 0), fd)) else (-1000000001, bo, so, nn, zFd fd 0)
abbrev zCL : Type := Int64 × zNN × (Nat → Int32)
def zm_write (bo so : Nat → Int32) (nn : zNN) (fd : Nat → Int32) (y i : Int32) (v : Int64) : zCL :=
  if z4 y then (if bo (zc y) = 0 then (-1000000006, nn, zFd fd 5) else if zBw i 0 (so (zc y) - 1) then (nn (zc y) (zc i), zUL nn (zc y) (zc i) (zna (bo (zc y)) v), fd) else (-1000000001, nn, zFd fd 0)) else (-1000000001, nn, zFd fd 0)
abbrev zCI : Type := Int32 × zNN × (Nat → Int32)
/-- n numbers of f from a on, put into g from b on -/
def zcp (f g : Nat → Int64) (a b n : Nat) : Nat → Int64 := fun k => if b ≤ k ∧ k < b + n then f (a + (k - b)) else g k
def zm_copy (bo so : Nat → Int32) (nn : zNN) (fd : Nat → Int32) (y fr z to n : Int32) : zCI :=
  if z4 y ∧ z4 z then (if bo (zc y) = 0 ∨ bo (zc z) = 0 then (-1000000006, nn, zFd fd 5) else if bo (zc y) = bo (zc z) then
    (if 0 ≤ fr ∧ 0 ≤ to ∧ 0 ≤ n ∧ n ≤ so (zc y) - fr ∧ n ≤ so (zc z) - to then (n, zVL nn (zc z) (zcp (nn (zc y)) (nn (zc z)) (zc fr) (zc to) (zc n)), fd) else (-1000000001, nn, zFd fd 0))
    else (-1000000003, nn, zFd fd 2)) else (-1000000001, nn, zFd fd 0)
abbrev zCS : Type := Int32 × zT × (Nat → Int32)
/-- traffic out of a sheet's first k numbers, and how many came -/
def zLy (f : Nat → Int64) (S : zT) : Nat → zT × Nat
  | 0 => (S, 0)
  | k + 1 => if 0 ≤ f k ∧ f k ≤ 99 then (zU (zLy f S k).1 1 k (f k).toInt32, (zLy f S k).2 + 1) else zLy f S k
def zml (n : Int32) : Nat := if zc n < 6 then zc n else 6
def zm_lays (bo so : Nat → Int32) (nn : zNN) (S : zT) (fd : Nat → Int32) (y : Int32) : zCS :=
  if z4 y then (if bo (zc y) = 0 then (-1000000006, S, zFd fd 5) else (nI (zLy (nn (zc y)) S (zml (so (zc y)))).2, (zLy (nn (zc y)) S (zml (so (zc y)))).1, fd)) else (-1000000001, S, zFd fd 0)
/-- a book: sizes week by week -/
def zBk (bi : Int32) (h i : Nat) : Nat → zNN → zT → zNN × zT
  | 0, nn, T => (nn, T)
  | k + 1, nn, T => (zUL (zBk bi h i k nn T).1 i k (zna bi ((zBk bi h i k nn T).2 5 h).toInt64), zWk (zBk bi h i k nn T).2)
def zm_book (bo so : Nat → Int32) (nn : zNN) (S : zT) (fd : Nat → Int32) (y h : Int32) : zCI :=
  if z4 y then (if bo (zc y) = 0 then (-1000000006, nn, zFd fd 5) else if zH S h then (so (zc y), (zBk (bo (zc y)) (zc h) (zc y) (zc (so (zc y))) nn S).1, fd) else (-1000000001, nn, zFd fd 0)) else (-1000000001, nn, zFd fd 0)
/-- whether numbers from k on, d of them, are a hole's sizes -/
def zIb (f : Nat → Int64) (h : Nat) : Nat → Nat → zT → Bool
  | 0, _, _ => true
  | d + 1, k, T => if f k = (T 5 h).toInt64 then zIb f h d (k + 1) (zWk T) else false
def zpa (S : zT) (h i : Nat) : zT := zU (zU (zU S 3 h (nI (i / 3))) 6 h (nI (i % 3))) 7 h 0
def zRp (f : Nat → Int64) (n : Nat) (S : zT) (h : Nat) : Nat → Nat
  | 0 => 0
  | k + 1 => zRp f n S h k + (if zIb f h n 0 (zpa S h k) = true then 1 else 0)
def zm_read (bo so : Nat → Int32) (nn : zNN) (S : zT) (fd : Nat → Int32) (y h : Int32) : zR2 :=
  if z4 y then (if bo (zc y) = 0 then (-1000000006, zFd fd 5) else if zH S h then (nI (zRp (nn (zc y)) (zc (so (zc y))) S (zc h) 18), fd) else (-1000000001, zFd fd 0)) else (-1000000001, zFd fd 0)
theorem z4_nat {v : Int32} (h : 0 ≤ v ∧ v < 4) : ∃ j : Nat, j < 4 ∧ v = nI j := by
  have h0 : ¬ v < 0 := Int32.not_lt.mpr h.1
  obtain ⟨j, hj, rfl⟩ := nI_of h0
  exact ⟨j, (nI_ltI (b := 4) hj (by decide)).mp h.2, rfl⟩
/-- what sheets are: bits, lengths -/
def zSI (bo so : Nat → Int32) : Prop := ∀ i, i < 4 → zbt (bo i) ∧ ∃ n : Nat, n ≤ 40 ∧ so i = nI n
def zflL (f g : Nat → Int64) (k : Nat) : Nat → Int64 := fun i => if i < k then f i else g i
theorem zflL_s (f g : Nat → Int64) (k : Nat) : vp_updL (zflL f g k) k (f k) = zflL f g (k + 1) := by
  funext i
  unfold vp_updL zflL
  by_cases h : i = k
  · subst h; simp
  · have : (i < k + 1) ↔ i < k := by omega
    simp [h, this]
theorem zflL_0 (f g : Nat → Int64) : zflL f g 0 = g := by funext i; simp [zflL]
theorem zcase4 (y : Int32) : y = 0 ∨ y = 1 ∨ y = 2 ∨ y = 3 ∨ ¬ z4 y := by
  by_cases h : z4 y
  · obtain ⟨j, hj, rfl⟩ := z4_nat h
    rcases (show j = 0 ∨ j = 1 ∨ j = 2 ∨ j = 3 by omega) with rfl | rfl | rfl | rfl
    · exact Or.inl rfl
    · exact Or.inr (Or.inl rfl)
    · exact Or.inr (Or.inr (Or.inl rfl))
    · exact Or.inr (Or.inr (Or.inr (Or.inl rfl)))
  · exact Or.inr (Or.inr (Or.inr (Or.inr h)))
/-- an index within a sheet -/
theorem zidx {v w : Int32} {n : Nat} (hn : n ≤ 40) (hw : w = nI n) (h : 0 ≤ v ∧ v ≤ w - 1) : v < w ∧ ∃ j : Nat, j < 40 ∧ j < n ∧ v = nI j := by
  subst hw
  have h0 : ¬ v < 0 := Int32.not_lt.mpr h.1
  obtain ⟨j, hj, rfl⟩ := nI_of h0
  have e1 : (nI n - 1).toInt = (n : Int) - 1 := pk_sub_toInt (a := n) (b := 1) (by omega) (by omega)
  have e2 := Int32.le_iff_toInt_le.mp h.2
  rw [e1, nI_toInt hj] at e2
  have hjn : j < n := by omega
  exact ⟨nI_lt hjn (by omega), j, by omega, hjn, rfl⟩
theorem zspan {L v w : Int32} {m : Nat} (hm : m ≤ 40) (hL : L = nI m) : (0 ≤ v ∧ 0 ≤ w ∧ w ≤ L ∧ v ≤ L - w) ↔ (0 ≤ v ∧ 0 ≤ w ∧ w ≤ L - v) := by
  subst hL
  constructor
  · rintro ⟨h1, h2, h3, h4⟩
    obtain ⟨a, ha, rfl⟩ := nI_of (Int32.not_lt.mpr h1)
    obtain ⟨b, hb, rfl⟩ := nI_of (Int32.not_lt.mpr h2)
    have hb2 : b ≤ m := (nI_leI hb (by omega)).mp h3
    rw [pk_sub hb2] at h4
    have ha2 : a ≤ m - b := (nI_leI ha (by omega)).mp h4
    refine ⟨h1, h2, ?_⟩
    rw [pk_sub (by omega)]
    exact nI_le (by omega) (by omega)
  · rintro ⟨h1, h2, h3⟩
    obtain ⟨a, ha, rfl⟩ := nI_of (Int32.not_lt.mpr h1)
    obtain ⟨b, hb, rfl⟩ := nI_of (Int32.not_lt.mpr h2)
    have hab : a + b ≤ m := by
      have h4 := Int32.le_iff_toInt_le.mp h3
      rw [nI_toInt hb] at h4
      have e : (nI m - nI a).toInt = (m : Int) - a := by
        rw [Int32.toInt_sub, nI_toInt (by omega), nI_toInt ha]
        exact Int.bmod_eq_of_le (by omega) (by omega)
      rw [e] at h4
      omega
    refine ⟨h1, h2, nI_le (by omega) (by omega), ?_⟩
    rw [pk_sub (by omega)]
    exact nI_le (by omega) (by omega)
theorem zspan_nat {L v w : Int32} {m : Nat} (hm : m ≤ 40) (hL : L = nI m) (h : 0 ≤ v ∧ 0 ≤ w ∧ w ≤ L ∧ v ≤ L - w) : ∃ a b : Nat, v = nI a ∧ w = nI b ∧ a + b ≤ m := by
  subst hL
  obtain ⟨h1, h2, h3, h4⟩ := h
  obtain ⟨a, ha, rfl⟩ := nI_of (Int32.not_lt.mpr h1)
  obtain ⟨b, hb, rfl⟩ := nI_of (Int32.not_lt.mpr h2)
  have hb2 : b ≤ m := (nI_leI hb (by omega)).mp h3
  rw [pk_sub hb2] at h4
  have ha2 : a ≤ m - b := (nI_leI ha (by omega)).mp h4
  exact ⟨a, b, rfl, rfl, by omega⟩
section COPYL
variable {p : Program} {e : Env} {R : Room} {s : State} {m : MethodId} {args : Array Value} {below : List Frame} {meth : Method} {c : Code} {H H0 : Heap} {locs : List Loc} {cells slots : Nat} {Q : State → Prop} {x : zX} {A : Nat → Prop} {ls : Array Slot} {pc : Nat} {cc : ByteArray} {rest : List Value} {ws : va_W} {a : Nat}
theorem zcpyL {own : String} {index : Nat} (hx : p.tables.exec = Jvm.exec) (hb : c.code = cc) (hml : c.maxLocals = ls.size) (hown : s.vm.findClass own = some m.cls) (hts : ∀ w ∈ zGW, w.before args s = true) (hl : Cond.methodLink own index arraycopyName ∈ zGW) (hK : va_K (zD x) vwCl (zTy x) s) (hw : zHw x A H0 ws H locs) (q0 q1 i j n : Nat) {a0 : Nat} {f g : Nat → Int64} (ha0 : ws[q0]? = some (a0, .inl (zJ x, 40, .inr (.inl f)))) (ha1 : ws[q1]? = some (a, .inl (zJ x, 40, .inr (.inl g)))) (hi : i + n ≤ 40) (hj : j + n ≤ 40)
    (hR : 1 ≤ R.frames ∧ (rest.map fun v => v.category).sum + (nativeFrameWords "java/lang/System" "arraycopy" 5 + 11) ≤ R.locals) (hdg : decode cc pc = .ok (.invokestatic index, 3))
    (kk : ∀ (H1 : Heap) (locs1 : List Loc), zHw x A H0 (ws.set q1 (a, .inl (zJ x, 40, .inr (.inl (zcp f g i j n))))) H1 locs1 → W p x.1 e R s m args below meth c H1 locs1 cells slots Q (F0 m (pc + 3) ls rest)) : W p x.1 e R s m args below meth c H locs cells slots Q (F0 m pc ls (.int (nI n) :: .int (nI j) :: .ref a :: .int (nI i) :: .ref a0 :: rest)) := by
  have zn : (nI n).toNatClampNeg = n := nI_clamp (by omega)
  have zi : (nI i).toNatClampNeg = i := nI_clamp (by omega)
  have zj : (nI j).toNatClampNeg = j := nI_clamp (by omega)
  refine va_copyl hx hb hml hown (hts _ hl) (hts _ acN) (hts _ acS) (hts _ acI) hK hw.P hw.D hw.S q0 q1 1 1 ha0 ha1 rfl rfl rfl (nI_pos (by omega)) (nI_pos (by omega)) (nI_pos (by omega)) (by rw [zi, zn]; exact hi) (by rw [zj, zn]; exact hj) (fun _ _ => rfl) hR.1 hR.2 hdg ?_
  rw [zi, zj, zn]
  exact fun H1 l1 h1 h2 h3 => kk H1 l1 ⟨h1, h2, h3⟩
end COPYL
theorem zLy_t {f : Nat → Int64} {S : zT} {k : Nat} (h : 0 ≤ f k ∧ f k ≤ 99) : zLy f S (k + 1) = (zU (zLy f S k).1 1 k (f k).toInt32, (zLy f S k).2 + 1) := if_pos h
theorem zLy_f {f : Nat → Int64} {S : zT} {k : Nat} (h : ¬ (0 ≤ f k ∧ f k ≤ 99)) : zLy f S (k + 1) = zLy f S k := if_neg h
theorem zLy_le (f : Nat → Int64) (S : zT) : ∀ k, (zLy f S k).2 ≤ k
  | 0 => Nat.le_refl _
  | k + 1 => by
    have ih := zLy_le f S k
    by_cases h : 0 ≤ f k ∧ f k ≤ 99
    · rw [zLy_t h]; exact Nat.succ_le_succ ih
    · rw [zLy_f h]; omega
theorem zml_of {n : Nat} (hn : n ≤ 40) : zml (nI n) = min n 6 := by
  unfold zml
  rw [zc_nI (by omega)]
  by_cases h : n < 6
  · rw [if_pos h]; omega
  · rw [if_neg h]; omega
theorem zBk_inv (bi : Int32) (h i : Nat) : ∀ (k : Nat) (nn : zNN) {T : zT}, zInv T → zInv (zBk bi h i k nn T).2
  | 0, _, _, hI => hI
  | k + 1, nn, _, hI => (zWk_ok (zBk_inv bi h i k nn hI)).1
theorem zBk_o (bi : Int32) (h i : Nat) {c : Nat} (hc : ¬ c = i) : ∀ (k : Nat) (nn : zNN) (T : zT), (zBk bi h i k nn T).1 c = nn c
  | 0, _, _ => rfl
  | k + 1, nn, T => by
    show zUL (zBk bi h i k nn T).1 i k _ c = nn c
    rw [show zUL (zBk bi h i k nn T).1 i k (zna bi ((zBk bi h i k nn T).2 5 h).toInt64) c = (zBk bi h i k nn T).1 c from if_neg hc]
    exact zBk_o bi h i hc k nn T
theorem zIb_t {f : Nat → Int64} {h d k : Nat} {T : zT} (e : f k = (T 5 h).toInt64) : zIb f h (d + 1) k T = zIb f h d (k + 1) (zWk T) := if_pos e
theorem zIb_f {f : Nat → Int64} {h d k : Nat} {T : zT} (e : ¬ f k = (T 5 h).toInt64) : zIb f h (d + 1) k T = false := if_neg e
theorem zpa_inv {S : zT} (hI : zInv S) {h i : Nat} (hi : i < 18) : zInv (zpa S h i) := by
  refine ((hI.u (c := 3) (j := h) (Or.inr ⟨i / 3, (show i / 3 ≤ 5 by omega), rfl⟩)).u (c := 6) (j := h) (Or.inr ⟨i % 3, (show i % 3 ≤ 2 by omega), rfl⟩)).u (c := 7) (j := h) (Or.inr ⟨0, Nat.zero_le _, rfl⟩)
theorem zRp_le (f : Nat → Int64) (n : Nat) (S : zT) (h : Nat) : ∀ k, zRp f n S h k ≤ k
  | 0 => Nat.le_refl _
  | k + 1 => by
    have ih := zRp_le f n S h k
    unfold zRp
    by_cases c : zIb f h n 0 (zpa S h k) = true
    · rw [if_pos c]; omega
    · rw [if_neg c]; omega
