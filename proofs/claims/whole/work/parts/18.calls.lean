/-! WHAT THE CALLS ANSWER: for both sides; of a town S and the counts fd of findings -/
abbrev zR : Type := Int32 × zT × (Nat → Int32)
def zFd (fd : Nat → Int32) (j : Nat) : Nat → Int32 := upd fd j (fd j + 1)
abbrev zBw (v lo hi : Int32) : Prop := lo ≤ v ∧ v ≤ hi
abbrev zH (S : zT) (v : Int32) : Prop := 0 ≤ v ∧ v < S 0 0
abbrev z6 (v : Int32) : Prop := 0 ≤ v ∧ v < 6
abbrev zc (v : Int32) : Nat := v.toNatClampNeg
def zbd0 (S : zT) (fd : Nat → Int32) : zR := (-1000000001, S, zFd fd 0)
def ztopT (w : Int32) : Int32 := if w < 2 then 99999 else if w = 2 then 6 else 1
def ztopH (w : Int32) : Int32 := if w = 1 then 5 else if w = 2 then 99 else if w = 3 then 2 else if w = 4 then 999 else 1
def zm_town (S : zT) (fd : Nat → Int32) (w v : Int32) : zR := if zBw w 0 3 ∧ zBw v 0 (ztopT w) then (S 0 (2 + zc w), zU S 0 (2 + zc w) v, fd) else zbd0 S fd
def zm_street (S : zT) (fd : Nat → Int32) (r w v : Int32) : zR := if z6 r ∧ zBw w 0 1 ∧ zBw v 0 (if w = 0 then 99 else 1) then (S (1 + zc w) (zc r), zU S (1 + zc w) (zc r) v, fd) else zbd0 S fd
def zm_streetOf (S : zT) (fd : Nat → Int32) (r w : Int32) : zR := if z6 r ∧ zBw w 0 3 then ((if w ≤ 1 then S (1 + zc w) (zc r) else if w = 2 then zBi (fun h => decide (S 4 h = r)) (zN S) else zBi (fun h => decide (S 4 h = r)) (zN S) &&& zBi (zopn S) (zN S)), S, fd) else zbd0 S fd
def zm_hole (S : zT) (fd : Nat → Int32) (k r : Int32) : zR := if z6 k ∧ z6 r then (if S 0 0 = 8 then (-1000000002, S, zFd fd 1) else (nI (zN S), zAd S k r, fd)) else zbd0 S fd
def zm_of (S : zT) (fd : Nat → Int32) (h w : Int32) : zR := if zH S h ∧ zBw w 0 9 then ((if w = 6 then zGs S (zc h) else if w = 7 then zCp (S 3 (zc h)) (S 5 (zc h)) else if w = 8 then zHd (S 3 (zc h)) 1 else if w = 9 then zHd (S 3 (zc h)) 2 else S (3 + zc w) (zc h)), S, fd) else zbd0 S fd
def zm_set (S : zT) (fd : Nat → Int32) (h w v : Int32) : zR := if zH S h ∧ zBw w 1 5 ∧ zBw v 0 (ztopH w) then (S (3 + zc w) (zc h), zU S (3 + zc w) (zc h) v, fd) else zbd0 S fd
def zm_turn (S : zT) (fd : Nat → Int32) (h k : Int32) : zR := if zH S h ∧ z6 k then (S 3 (zc h), zU S 3 (zc h) k, fd) else zbd0 S fd
def zm_as (S : zT) (fd : Nat → Int32) (h k : Int32) : zR := if zH S h ∧ z6 k then (if zUn (S 3 (zc h)) k then (S 5 (zc h), S, fd) else (-1000000003, S, zFd fd 2)) else zbd0 S fd
def zm_fill (S : zT) (fd : Nat → Int32) (h w : Int32) : zR := if zH S h ∧ zBw w 0 1 then (if S 6 (zc h) = 0 ∧ zPs S (zc h) w ≤ S 0 2 then (zPs S (zc h) w, zFi S (zc h) w, fd) else (-1000000005, S, zFd fd 4)) else zbd0 S fd
def zm_next (S : zT) (fd : Nat → Int32) : zR := match zNb S (zN S) with
  | none => (-1000000004, S, zFd fd 3)
  | some b => (nI b, S, fd)
def zm_weeks (S : zT) (fd : Nat → Int32) (n : Int32) : zR := if zBw n 1 60 then (if 9999 < S 0 1 + n then (-1000000005, S, zFd fd 4) else (zBi (zopn (zGo (zc n) S)) (zN (zGo (zc n) S)), zGo (zc n) S, fd)) else zbd0 S fd
def zm_now (S : zT) (fd : Nat → Int32) (w : Int32) : zR := if zBw w 0 5 then (S 0 (1 + zc w), S, fd) else if w = 6 then (zb (zFr (zWo S)), S, fd) else if w = 7 then (zWr S, S, fd) else zbd0 S fd
def zm_on (S : zT) (fd : Nat → Int32) (h n w : Int32) : zR := if zH S h ∧ zBw n 0 104 ∧ zBw w 0 1 then ((if w = 0 then zGo (zc n) S 5 (zc h) else zGo (zc n) S 6 (zc h)), S, fd) else zbd0 S fd
def zm_worse (S : zT) (fd : Nat → Int32) (n : Int32) : zR := if zBw n 0 104 then (zWr (zGo (zc n) S), S, fd) else zbd0 S fd
def zm_cost (S : zT) (fd : Nat → Int32) (n : Int32) : zR := if zBw n 0 104 then (zGo (zc n) S 0 6 - S 0 6, S, fd) else zbd0 S fd
/-- in how many weeks it is so first, of d more from n on -/
def zFs (h : Nat) (b : Bool) : Nat → zT → Nat → Option Nat
  | 0, _, _ => none
  | d + 1, T, n => if decide (¬ T 6 h = 0) = b then some n else zFs h b d (zWk T) (n + 1)
def zm_first (b : Bool) (S : zT) (fd : Nat → Int32) (h : Int32) : zR := if zH S h then (match zFs (zc h) b 105 S 0 with
  | none => (-1000000004, S, zFd fd 3)
  | some n => (nI n, S, fd)) else zbd0 S fd
def zm_how (S : zT) (fd : Nat → Int32) (n : Int32) : zR := if zBw n 1 104 then ((if zWr (zGo (zc n) (zU S 0 5 1)) < zWr (zGo (zc n) (zU S 0 5 0)) then 1 else 0), S, fd) else zbd0 S fd
/-- the best so far, and how it is -/
def zRb (S : zT) (n : Nat) : Nat → Option Nat × Int32
  | 0 => (none, 0)
  | k + 1 => if S 8 k = 0 ∧ ((zRb S n k).1 = none ∨ zWr (zGo n (zU S 8 k 1)) < (zRb S n k).2) then (some k, zWr (zGo n (zU S 8 k 1))) else zRb S n k
def zm_ring (S : zT) (fd : Nat → Int32) (n : Int32) : zR := if zBw n 1 52 then (match (zRb S (zc n) (zN S)).1 with
  | none => (-1000000004, S, zFd fd 3)
  | some b => (nI b, S, fd)) else zbd0 S fd
/-- the first from k on, of d -/
def zF1 (p : Nat → Bool) : Nat → Nat → Option Nat
  | 0, _ => none
  | d + 1, k => if p k = true then some k else zF1 p d (k + 1)
def zpL (S : zT) (j n : Nat) (v : Int32) (k : Nat) : Bool := decide (zWr (zGo n (zU S 0 j (nI k))) ≤ v)
def zm_least (j hi : Nat) (mx : Int32) (S : zT) (fd : Nat → Int32) (n v : Int32) : zR := if zBw n 1 mx ∧ zBw v 0 999 then (match zF1 (zpL S j (zc n) v) (hi + 1) 0 with
  | none => (-1000000004, S, zFd fd 3)
  | some b => (nI b, S, fd)) else zbd0 S fd
/-- the least of values, first of them; least at first z -/
def zMi (f : Nat → Int32) (z : Int32) : Nat → Nat × Int32
  | 0 => (0, z)
  | k + 1 => if f k < (zMi f z k).2 then (k, f k) else zMi f z k
def zkF (S : zT) (h n k : Nat) : Int32 := zGo n (zU S 3 h (nI k)) 5 h
def zm_kind (S : zT) (fd : Nat → Int32) (h n : Int32) : zR := if zH S h ∧ zBw n 1 52 then (nI (zMi (zkF S (zc h) (zc n)) 100 6).1, S, fd) else zbd0 S fd
def zlF (S : zT) (n k : Nat) : Int32 := zWr (zGo n (zLa S (nI k) 6))
def zm_let (S : zT) (fd : Nat → Int32) (n : Int32) : zR := if zBw n 1 26 then (nI (zMi (zlF S (zc n)) 793 64).1, S, fd) else zbd0 S fd
def zoS (T : zT) (r : Int32) : Int32 := zSu (fun h => zopn T h && decide (T 4 h = r)) (T 5) (zN T)
def zWt (T : zT) : Nat → Nat
  | 0 => 0
  | k + 1 => if zoS T (nI (zWt T k)) < zoS T (nI (k + 1)) then k + 1 else zWt T k
def zm_worst (S : zT) (fd : Nat → Int32) (n : Int32) : zR := if zBw n 0 104 then (nI (zWt (zGo (zc n) S) 5), S, fd) else zbd0 S fd
/-- out of tests, naturals -/
theorem zBw_nat {v lo : Int32} {hi : Nat} (h : lo ≤ v ∧ v ≤ nI hi) (hl : 0 ≤ lo) (hh : hi < 2147483648) : ∃ j : Nat, j ≤ hi ∧ v = nI j := by
  have h0 : ¬ v < 0 := Int32.not_lt.mpr (Int32.le_trans hl h.1)
  obtain ⟨j, hj, rfl⟩ := nI_of h0
  exact ⟨j, (nI_leI hj hh).mp h.2, rfl⟩
theorem z6_nat {v : Int32} (h : z6 v) : ∃ j : Nat, j < 6 ∧ v = nI j := by
  have h0 : ¬ v < 0 := Int32.not_lt.mpr h.1
  obtain ⟨j, hj, rfl⟩ := nI_of h0
  exact ⟨j, (nI_ltI (b := 6) hj (by decide)).mp h.2, rfl⟩
theorem zH_nat {S : zT} (hI : zInv S) {v : Int32} (h : 0 ≤ v ∧ v < S 0 0) : ∃ j : Nat, j < 8 ∧ j < zN S ∧ v = nI j := by
  obtain ⟨n, hn, h0⟩ := hI.holes
  have hN := zN_of hn h0
  have hv : ¬ v < 0 := Int32.not_lt.mpr h.1
  obtain ⟨j, hj, rfl⟩ := nI_of hv
  have h2 := h.2
  rw [h0] at h2
  have : j < n := (nI_ltI hj (by omega)).mp h2
  exact ⟨j, by omega, by omega, rfl⟩
theorem zc_nI {j : Nat} (h : j < 2147483648) : zc (nI j) = j := nI_clamp h
theorem zN_0 {S : zT} (hI : zInv S) : S 0 0 = nI (zN S) := by
  obtain ⟨n, hn, h0⟩ := hI.holes
  rw [zN_of hn h0, h0]
/-- the reference behind a call -/
def zPM (x : zX) (a : Nat → Nat) (q : Nat → Int32) (g : zT) (nu : Nat → Nat → Int64) (t : zR) (v' : Option Value) (u' : va_W) : Prop := v' = some (.int t.1) ∧ ∃ F : Nat → Int32, u' = zMW x a q (zV (zV g 4 F) 5 t.2.2) nu (zflat t.2.1)
theorem zPM.mk {x : zX} {a : Nat → Nat} {q : Nat → Int32} {g : zT} {nu : Nat → Nat → Int64} {t : zR} {r : Int32} {S' : zT} {fd' : Nat → Int32} {u : va_W} (e : t = (r, S', fd')) (F : Nat → Int32) (hu : u = zMW x a q (zV (zV g 4 F) 5 fd') nu (zflat S')) : zPM x a q g nu t (some (.int r)) u := by
  subst e; exact ⟨rfl, F, hu⟩
theorem zG0 (g : zT) : g = zV (zV g 4 (g 4)) 5 (g 5) := by rw [zV_self, zV_self]
theorem zG1 (g : zT) (j : Nat) : zU g 5 j (g 5 j + 1) = zV (zV g 4 (g 4)) 5 (zFd (g 5) j) := by rw [zV_self]; rfl
theorem zG2 (g : zT) (F : Nat → Int32) : zV g 4 F = zV (zV g 4 F) 5 (g 5) := (zV_self (zV g 4 F) 5).symm
theorem zU_back (S : zT) (c j : Nat) (v : Int32) : zU (zU S c j v) c j (S c j) = S := by
  funext c' j'
  by_cases h : c' = c ∧ j' = j
  · obtain ⟨rfl, rfl⟩ := h; exact zU_at _ _ _ _
  · rw [zU_ne _ _ h, zU_ne _ _ h]
theorem zno15 {k : Int32} (k1 : ¬ k = 1) (k2 : ¬ k = 2) (k3 : ¬ k = 3) (k4 : ¬ k = 4) (k5 : ¬ k = 5) (h : zBw k 1 5) : False := by
  have e1 : k.toInt ≠ 1 := zti k1
  have e2 : k.toInt ≠ 2 := zti k2
  have e3 : k.toInt ≠ 3 := zti k3
  have e4 : k.toInt ≠ 4 := zti k4
  have e5 : k.toInt ≠ 5 := zti k5
  have a1 : (1 : Int) ≤ k.toInt := Int32.le_iff_toInt_le.mp h.1
  have a2 : k.toInt ≤ 5 := Int32.le_iff_toInt_le.mp h.2
  omega
theorem zund {n : Nat} {o : Int32} (hn : n ≤ 5) (c1 : ¬ nI n ≤ 3) (c2 : nI n - 3 = o) : zUn (nI n) o := by
  have h : 3 < n := by
    rcases Nat.lt_or_ge 3 n with q | q
    · exact q
    · exact absurd (nI_le (a := n) (b := 3) q (by decide)) c1
  rcases (show n = 4 ∨ n = 5 by omega) with rfl | rfl
  · exact Or.inr (Or.inr (Or.inl ⟨by rw [← c2]; rfl, rfl⟩))
  · exact Or.inr (Or.inr (Or.inr ⟨by rw [← c2]; rfl, rfl⟩))
theorem zundn {n : Nat} {o : Int32} (hn : n ≤ 5) (c1 : ¬ o = 0) (c2 : ¬ nI n = o) (c3 : nI n ≤ 3 ∨ ¬ nI n - 3 = o) : ¬ zUn (nI n) o := by
  rintro (h | h | ⟨h1, h2⟩ | ⟨h1, h2⟩)
  · exact c1 h
  · exact c2 h
  · have e : n = 4 := (nI_eq (b := 4) (by omega) (by decide)).mp h2
    subst e; subst h1
    rcases c3 with c3 | c3
    · exact absurd c3 (by decide)
    · exact c3 rfl
  · have e : n = 5 := (nI_eq (b := 5) (by omega) (by decide)).mp h2
    subst e; subst h1
    rcases c3 with c3 | c3
    · exact absurd c3 (by decide)
    · exact c3 rfl
theorem z01 {w : Int32} (h : 0 ≤ w ∧ w ≤ 1) : w = 0 ∨ w = 1 := by
  obtain ⟨j, hj, rfl⟩ := zBw_nat (hi := 1) h (by decide) (by decide)
  rcases (show j = 0 ∨ j = 1 by omega) with rfl | rfl
  · exact Or.inl rfl
  · exact Or.inr rfl
theorem zno05 {k : Int32} (k0 : ¬ k = 0) (k1 : ¬ k = 1) (k2 : ¬ k = 2) (k3 : ¬ k = 3) (k4 : ¬ k = 4) (k5 : ¬ k = 5) (h : zBw k 0 5) : False := by
  have e0 : k.toInt ≠ 0 := zti k0
  have a1 : (0 : Int) ≤ k.toInt := Int32.le_iff_toInt_le.mp h.1
  refine zno15 k1 k2 k3 k4 k5 ⟨Int32.le_iff_toInt_le.mpr ?_, h.2⟩
  show (1 : Int) ≤ k.toInt
  omega
def zm_fs (b : Bool) (S : zT) (fd : Nat → Int32) (h : Nat) : zR := match zFs h b 105 S 0 with
  | none => (-1000000004, S, zFd fd 3)
  | some n => (nI n, S, fd)
theorem zm_first_pos {b : Bool} {S : zT} {fd : Nat → Int32} {h : Int32} (c : zH S h) : zm_first b S fd h = zm_fs b S fd (zc h) := if_pos c
theorem zU_U (S : zT) (c j : Nat) (v w : Int32) : zU (zU S c j v) c j w = zU S c j w := by
  funext c' j'
  by_cases h : c' = c ∧ j' = j
  · obtain ⟨rfl, rfl⟩ := h; rw [zU_at, zU_at]
  · rw [zU_ne _ _ h, zU_ne _ _ h, zU_ne _ _ h]
theorem zRb_neg {S : zT} {n k : Nat} (h : ¬ (S 8 k = 0 ∧ ((zRb S n k).1 = none ∨ zWr (zGo n (zU S 8 k 1)) < (zRb S n k).2))) : zRb S n (k + 1) = zRb S n k := if_neg h
theorem zRb_pos {S : zT} {n k : Nat} (h : S 8 k = 0) (h2 : (zRb S n k).1 = none ∨ zWr (zGo n (zU S 8 k 1)) < (zRb S n k).2) : zRb S n (k + 1) = (some k, zWr (zGo n (zU S 8 k 1))) := if_pos ⟨h, h2⟩
theorem zRb_lt (S : zT) (n : Nat) : ∀ (k b : Nat), (zRb S n k).1 = some b → b < k
  | 0, b, h => by cases h
  | k + 1, b, h => by
    by_cases c : S 8 k = 0 ∧ ((zRb S n k).1 = none ∨ zWr (zGo n (zU S 8 k 1)) < (zRb S n k).2)
    · rw [zRb_pos c.1 c.2] at h; cases h; omega
    · rw [zRb_neg c] at h
      have := zRb_lt S n k b h
      omega
def zm_lb (j hi : Nat) (S : zT) (fd : Nat → Int32) (n : Nat) (v : Int32) : zR := match zF1 (zpL S j n v) (hi + 1) 0 with
  | none => (-1000000004, S, zFd fd 3)
  | some b => (nI b, S, fd)
theorem zm_least_pos {j hi : Nat} {mx : Int32} {S : zT} {fd : Nat → Int32} {n v : Int32} (c : zBw n 1 mx ∧ zBw v 0 999) : zm_least j hi mx S fd n v = zm_lb j hi S fd (zc n) v := if_pos c
theorem zMi_pos {f : Nat → Int32} {z : Int32} {k : Nat} (h : f k < (zMi f z k).2) : zMi f z (k + 1) = (k, f k) := if_pos h
theorem zMi_neg {f : Nat → Int32} {z : Int32} {k : Nat} (h : ¬ f k < (zMi f z k).2) : zMi f z (k + 1) = zMi f z k := if_neg h
theorem zMi_z {f : Nat → Int32} {z y : Int32} (hz : f 0 < z) (hy : f 0 < y) : ∀ k, zMi f z (k + 1) = zMi f y (k + 1)
  | 0 => by rw [zMi_pos hz, zMi_pos hy]
  | k + 1 => by
    have ih := zMi_z hz hy k
    by_cases c : f (k + 1) < (zMi f z (k + 1)).2
    · rw [zMi_pos c, zMi_pos (by rw [← ih]; exact c)]
    · exact (zMi_neg c).trans (ih.trans (zMi_neg (show ¬ f (k + 1) < (zMi f y (k + 1)).2 by rw [← ih]; exact c)).symm)
theorem zSu_le (P : Nat → Bool) (f : Nat → Int32) : ∀ k, k ≤ 8 → (∀ i, i < k → ∃ n : Nat, n ≤ 99 ∧ f i = nI n) → ∃ m : Nat, m ≤ 99 * k ∧ zSu P f k = nI m
  | 0, _, _ => ⟨0, by omega, rfl⟩
  | k + 1, hk, h => by
    obtain ⟨m, hm, e⟩ := zSu_le P f k (by omega) (fun i hi => h i (by omega))
    obtain ⟨n, hn, e2⟩ := h k (by omega)
    unfold zSu
    by_cases c : P k = true
    · rw [if_pos c, e, e2, nI_add]; exact ⟨m + n, by omega, rfl⟩
    · rw [if_neg c, e]; exact ⟨m, by omega, rfl⟩
theorem zWr_le {S : zT} (hI : zInv S) : ∃ m : Nat, m ≤ 792 ∧ zWr S = nI m := by
  have h8 := zN_le hI
  obtain ⟨m, hm, e⟩ := zSu_le (zopn S) (S 5) (zN S) h8 (fun i hi => hI.col 5 i (by decide) (by decide) (show i < 8 by omega))
  exact ⟨m, by omega, e⟩
theorem zLa_inv {S : zT} (hI : zInv S) (v : Int32) : ∀ k, k ≤ 6 → zInv (zLa S v k)
  | 0, _ => hI
  | k + 1, hk => by
    refine (zLa_inv hI v k (by omega)).u (Or.inr ?_)
    obtain ⟨j, hj, e⟩ := pk_andE (v >>> (nI k &&& 31)) (m := 1) 1 (by decide)
    rw [e]
    exact ⟨j, (show j ≤ 1 by omega), rfl⟩
theorem zLa_0 (S : zT) (v : Int32) : ∀ k, zLa S v k 0 0 = S 0 0
  | 0 => rfl
  | k + 1 => zLa_0 S v k
theorem znd (a b : Nat) : nI a &&& nI b = nI (a &&& b) := by
  apply Int32.toBitVec_inj.mp
  show (nI a).toBitVec &&& (nI b).toBitVec = (nI (a &&& b)).toBitVec
  show BitVec.ofNat 32 a &&& BitVec.ofNat 32 b = BitVec.ofNat 32 (a &&& b)
  rw [BitVec.ofNat_and]
theorem zBn_tb (P : Nat → Bool) (k i : Nat) : (zBn P k).testBit i = (decide (i < k) && P i) := by
  by_cases h : i < k
  · rw [Nat.testBit_eq_decide_div_mod_eq]
    have := zBn_bit P i k h
    simp only [h, decide_true, Bool.true_and]
    by_cases c : P i = true
    · rw [c]; exact decide_eq_true (this.mpr c)
    · have c' : P i = false := by simpa using c
      rw [c']; exact decide_eq_false (fun q => c (this.mp q))
  · rw [Nat.testBit_lt_two_pow (Nat.lt_of_lt_of_le (zBn_lt P k) (Nat.pow_le_pow_right (by decide) (by omega)))]
    simp [h]
theorem zBi_and (P Q : Nat → Bool) {k : Nat} (hk : k ≤ 8) : zBi P k &&& zBi Q k = zBi (fun h => P h && Q h) k := by
  rw [zBi_n P k hk, zBi_n Q k hk, zBi_n _ k hk, znd]
  congr 1
  apply Nat.eq_of_testBit_eq
  intro i
  rw [Nat.testBit_and, zBn_tb, zBn_tb, zBn_tb]
  by_cases h : i < k <;> simp [h]
theorem zFs_t {h : Nat} {b : Bool} {d n : Nat} {T : zT} (c : decide (¬ T 6 h = 0) = b) : zFs h b (d + 1) T n = some n := if_pos c
theorem zFs_f {h : Nat} {b : Bool} {d n : Nat} {T : zT} (c : ¬ decide (¬ T 6 h = 0) = b) : zFs h b (d + 1) T n = zFs h b d (zWk T) (n + 1) := if_neg c
theorem zF1_t {p : Nat → Bool} {d k : Nat} (c : p k = true) : zF1 p (d + 1) k = some k := if_pos c
theorem zF1_f {p : Nat → Bool} {d k : Nat} (c : ¬ p k = true) : zF1 p (d + 1) k = zF1 p d (k + 1) := if_neg c
theorem z105 {n : Nat} (hn : n ≤ 105) (c : 104 < nI n) : n = 105 := by
  have h5 : 104 < n := (nI_ltI (a := 104) (by decide) (by omega)).mp c
  omega
theorem zgt {k m : Nat} {v : Int32} (hk : k ≤ m + 1) (c : v < nI k) (hv : v = nI m := by rfl) (hm : m < 100000 := by decide) : k = m + 1 := by
  subst hv
  have : m < k := (nI_ltI (by omega) (by omega)).mp c
  omega
theorem zlet_z {S : zT} (hI : zInv S) (j : Nat) : zMi (zlF S j) 793 64 = zMi (zlF S j) 999 64 := by
  obtain ⟨m, hm, e⟩ := zWr_le (zGo_ok j (zLa_inv hI (nI 0) 6 (Nat.le_refl 6))).1
  have e : zlF S j 0 = nI m := e
  exact zMi_z (f := zlF S j) (k := 63) (z := 793) (y := 999) (by rw [e]; exact nI_lt (a := m) (b := 793) (by omega) (by decide)) (by rw [e]; exact nI_lt (a := m) (b := 999) (by omega) (by decide))
theorem zRb_neg2 {S : zT} {n k b : Nat} (hbb : (zRb S n k).1 = some b) (h : ¬ zWr (zGo n (zU S 8 k 1)) < (zRb S n k).2) : zRb S n (k + 1) = zRb S n k :=
  zRb_neg (fun q => q.2.elim (fun h2 => by rw [hbb] at h2; cases h2) h)
