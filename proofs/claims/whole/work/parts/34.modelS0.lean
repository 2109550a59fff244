/-! THE REFERENCE'S SHEETS -/
def zNM (nn : zNN) (mv : Nat → Int64) : zNN := fun c => if c = 0 then zfl nn else mv
section ROWS3
variable {p : Program} {e : Env} {R : Room} {s : State} {m : MethodId} {args : Array Value} {below : List Frame} {meth : Method} {c : Code} {H H0 : Heap} {locs : List Loc} {cells slots : Nat} {Q : State → Prop} {x : zX} {A : Nat → Prop} {ls : Array Slot} {pc : Nat} {cc : ByteArray} {rest : List Value} {ws : va_W} {a : Nat}
theorem zlal2 (hx : p.tables.exec = Jvm.exec) (hb : c.code = cc) (hK : va_K (zD x) vwCl (zTy x) s) (hw : zHw x A H0 ws H locs) (q0 t0 j : Nat) {cA : ClassId} {n : Nat} {f : Nat → Int64} (ha : ws[q0]? = some (a, .inl (cA, n, .inr (.inl f)))) (ht : (zTy x)[t0]? = some (cA, .long)) {i : Int32} (hi : i = nI j) (hj : j < n) (hn : n < 2147483648) (hdg : decode cc pc = .ok (.laload, 1)) {v : Int64} (hv : f j = v)
    (kk : W p x.1 e R s m args below meth c H locs cells slots Q (F0 m (pc + 1) ls (.long v :: rest))) : W p x.1 e R s m args below meth c H locs cells slots Q (F0 m pc ls (.int i :: .ref a :: rest)) :=
  zlal hx hb hK hw q0 t0 j ha ht hi hj hn hdg (by rw [hv]; exact kk)
theorem zlas2 (hx : p.tables.exec = Jvm.exec) (hb : c.code = cc) (hK : va_K (zD x) vwCl (zTy x) s) (hw : zHw x A H0 ws H locs) (q0 t0 j : Nat) {cA : ClassId} {n : Nat} {f : Nat → Int64} (ha : ws[q0]? = some (a, .inl (cA, n, .inr (.inl f)))) (ht : (zTy x)[t0]? = some (cA, .long)) {i : Int32} {z : Int64} (hi : i = nI j) (hj : j < n) (hn : n < 2147483648) (hdg : decode cc pc = .ok (.lastore, 1)) {f' : Nat → Int64} (hf : vp_updL f j z = f')
    (kk : ∀ (H1 : Heap) (locs1 : List Loc), zHw x A H0 (ws.set q0 (a, .inl (cA, n, .inr (.inl f')))) H1 locs1 → W p x.1 e R s m args below meth c H1 locs1 cells slots Q (F0 m (pc + 1) ls rest)) : W p x.1 e R s m args below meth c H locs cells slots Q (F0 m pc ls (.long z :: .int i :: .ref a :: rest)) :=
  zlas hx hb hK hw q0 t0 j ha ht hi hj hn hdg (by rw [hf]; exact kk)
end ROWS3
theorem zix (j k : Nat) : (40 : Int32) * nI j + nI k = nI (40 * j + k) := by
  show nI 40 * nI j + nI k = _
  rw [pk_mul, nI_add]
theorem zix3 (j k l : Nat) : (40 : Int32) * nI j + nI k + nI l = nI (40 * j + (k + l)) := by
  rw [zix, nI_add, Nat.add_assoc]
def zKg (g : zT) (F fd bo so : Nat → Int32) : zT := zV (zV (zV (zV g 4 F) 5 fd) 7 bo) 8 so
theorem zKg_ext {g G : zT} {F fd bo so : Nat → Int32} (h4 : G 4 = F) (h5 : G 5 = fd) (h7 : G 7 = bo) (h8 : G 8 = so) (ho : ∀ c, c ≠ 4 → c ≠ 5 → c ≠ 7 → c ≠ 8 → G c = g c) : G = zKg g F fd bo so := by
  funext c
  unfold zKg zV
  by_cases c8 : c = 8
  · subst c8; simp [h8]
  · by_cases c7 : c = 7
    · subst c7; simp [h7]
    · by_cases c5 : c = 5
      · subst c5; simp [h5]
      · by_cases c4 : c = 4
        · subst c4; simp [h4]
        · simp [c8, c7, c5, c4, ho c c4 c5 c7 c8]
theorem zK0 (g : zT) : g = zKg g (g 4) (g 5) (g 7) (g 8) := zKg_ext rfl rfl rfl rfl (fun _ _ _ _ _ => rfl)
theorem zK1 (g : zT) (j : Nat) : zU g 5 j (g 5 j + 1) = zKg g (g 4) (zFd (g 5) j) (g 7) (g 8) := zKg_ext rfl rfl rfl rfl (fun _ _ h _ _ => if_neg h)
theorem zK2 (g : zT) (F : Nat → Int32) : zV g 4 F = zKg g F (g 5) (g 7) (g 8) := zKg_ext rfl rfl rfl rfl (fun _ h _ _ _ => if_neg h)
theorem zK3 (g : zT) (i k : Nat) (v w : Int32) : zU (zU g 7 i v) 8 k w = zKg g (g 4) (g 5) (upd (g 7) i v) (upd (g 8) k w) := zKg_ext rfl rfl rfl rfl (fun c _ _ h7 h8 => (if_neg h8).trans (if_neg h7))
/-- the reference behind a call on sheets -/
def zPS (x : zX) (a : Nat → Nat) (q : Nat → Int32) (g S' : zT) (nn' : zNN) (bo' so' fd' : Nat → Int32) (u' : va_W) : Prop := ∃ (F : Nat → Int32) (mv : Nat → Int64), u' = zMW x a q (zKg g F fd' bo' so') (zNM nn' mv) (zflat S')
theorem zPS.mk {x : zX} {a : Nat → Nat} {q : Nat → Int32} {g G S' : zT} {nn' : zNN} {mv : Nat → Int64} {F bo' so' fd' : Nat → Int32} (h : G = zKg g F fd' bo' so') : zPS x a q g S' nn' bo' so' fd' (zMW x a q G (zNM nn' mv) (zflat S')) := ⟨F, mv, by rw [h]⟩
theorem zcaseS (y : Int32) (bo : Nat → Int32) : ¬ z4 y ∨ (∃ j : Nat, j < 4 ∧ y = nI j ∧ bo j = 0) ∨ (∃ j : Nat, j < 4 ∧ y = nI j ∧ ¬ bo j = 0) := by
  by_cases h : z4 y
  · obtain ⟨j, hj, rfl⟩ := z4_nat h
    by_cases hz : bo j = 0
    · exact Or.inr (Or.inl ⟨j, hj, rfl, hz⟩)
    · exact Or.inr (Or.inr ⟨j, hj, rfl, hz⟩)
  · exact Or.inl h
theorem z4_of {j : Nat} (hj : j < 4) : z4 (nI j) := ⟨nI_pos' (by omega), nI_lt (b := 4) hj (by decide)⟩
theorem zNM_cong {nn n2 : zNN} {mv : Nat → Int64} (h : ∀ i k, k < 40 → nn i k = n2 i k) : zNM nn mv = zNM n2 mv := by
  have e : zfl nn = zfl n2 := by funext k; exact h _ _ (Nat.mod_lt _ (by decide))
  unfold zNM; rw [e]
theorem zVL_U (nn : zNN) (i k : Nat) (f : Nat → Int64) (v : Int64) : zUL (zVL nn i f) i k v = zVL nn i (vp_updL f k v) := by
  funext c
  unfold zUL zVL
  by_cases h : c = i <;> simp [h]
theorem zVL_self (nn : zNN) (i : Nat) : zVL nn i (nn i) = nn := by funext c; unfold zVL; by_cases h : c = i <;> simp [h]
theorem zcp_s (f g : Nat → Int64) (a b k : Nat) : vp_updL (zcp f g a b k) (b + k) (f (a + k)) = zcp f g a b (k + 1) := by
  funext i
  unfold vp_updL zcp
  by_cases h : i = b + k
  · subst h
    rw [if_pos rfl, if_pos (by omega), Nat.add_sub_cancel_left]
  · rw [if_neg h]
    by_cases d : b ≤ i ∧ i < b + k
    · rw [if_pos d, if_pos (by omega)]
    · rw [if_neg d, if_neg (by omega)]
theorem zcp_0 (f g : Nat → Int64) (a b : Nat) : zcp f g a b 0 = g := by funext i; unfold zcp; rw [if_neg (by omega)]
theorem zVL_at (nn : zNN) (i : Nat) (f : Nat → Int64) : zVL nn i f i = f := if_pos rfl
theorem zNM_fill {nn : zNN} {mv : Nat → Int64} {j k : Nat} (hk : k = 40) : zNM (zVL nn j (zflL (fun _ => 0) (nn j) k)) mv = zNM (zVL nn j (fun _ => 0)) mv := by
  refine zNM_cong (fun i l hl => ?_)
  unfold zVL
  by_cases hi : i = j
  · rw [if_pos hi, if_pos hi]; exact if_pos (by omega)
  · rw [if_neg hi, if_neg hi]
theorem zcaseB (y h : Int32) (bo : Nat → Int32) (S : zT) : ¬ z4 y ∨ (∃ j : Nat, j < 4 ∧ y = nI j ∧ bo j = 0) ∨ (∃ j : Nat, j < 4 ∧ y = nI j ∧ ¬ bo j = 0 ∧ ¬ (0 ≤ h ∧ h < S 0 0)) ∨ (∃ j : Nat, j < 4 ∧ y = nI j ∧ ¬ bo j = 0 ∧ (0 ≤ h ∧ h < S 0 0)) := by
  rcases zcaseS y bo with q | q | ⟨j, hj, e, hz⟩
  · exact Or.inl q
  · exact Or.inr (Or.inl q)
  · by_cases hh : 0 ≤ h ∧ h < S 0 0
    · exact Or.inr (Or.inr (Or.inr ⟨j, hj, e, hz, hh⟩))
    · exact Or.inr (Or.inr (Or.inl ⟨j, hj, e, hz, hh⟩))
