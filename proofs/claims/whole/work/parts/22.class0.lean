/-! THE CLASS: its cells -/
theorem zmap_fm {α β : Type} {f : α → Option β} : ∀ {is : List α} {ws : List β}, is.map f = ws.map some → is.filterMap f = ws
  | [], [], _ => rfl
  | [], _ :: _, h => by cases h
  | _ :: _, [], h => by cases h
  | i :: is, w :: ws, h => by
    rw [List.map_cons, List.map_cons] at h
    obtain ⟨h1, h2⟩ := List.cons.inj h
    rw [List.filterMap_cons, h1, zmap_fm h2]
/-- the same cells in another order, or fewer -/
theorem zHw.pick {x : zX} {A : Nat → Prop} {H0 H : Heap} {ws ws' : va_W} {locs : List Loc} (h : zHw x A H0 ws H locs) (is : List Nat) (hn : va_nd is = true) (hs : is.map (fun i => ws[i]?) = ws'.map some) : zHw x A H0 ws' H locs := ⟨h.P.sub is (zmap_fm hs), h.D.sub is hn hs, h.S⟩
/-- the tape: tq 0 length, 1 token, 2 start, 3 end, 4 value -/
def zPW (x : zX) (b : Nat → Nat) (tb tq : Nat → Int32) : va_W := [(b 1, .inr (1, [.ref (b 2), .int (tq 0), .int (tq 1), .int (tq 2), .int (tq 3), .int (tq 4)])), (b 2, .inl (zI x, 120, .inl tb))]
/-- a sheet -/
def zSH (x : zX) (o n : Nat) (bi le : Int32) (f : Nat → Int64) : va_W := [(o, .inr (0, [.int bi, .int le, .ref n])), (n, .inl (zJ x, 40, .inr (.inl f)))]
def zOW (x : zX) (b : Nat → Nat) (t : Nat → Nat → Nat) (ik : Int32) (fd : Nat → Int32) : va_W := [(b 0, .inr (3, [.ref (t 0 0), .ref (t 1 0), .ref (t 2 0), .int ik, .ref (b 1), .ref (b 3), .ref (b 4)])), (b 4, .inl (zI x, 7, .inl fd)), (b 3, .inl (zO x, 4, .inr (.inr (.inr (.inr (fun i => some (b (5 + i))))))))]
def zHW (x : zX) (b : Nat → Nat) (t : Nat → Nat → Nat) (S : zT) (l0 : Int32) (T : zT) (l1 : Int32) (K : zT) (l2 ik : Int32) (fd tb tq bo so : Nat → Int32) (nn : Nat → Nat → Int64) : va_W := zOW x b t ik fd ++ (zTW x (t 0) S l0 ++ (zTW x (t 1) T l1 ++ (zTW x (t 2) K l2 ++ (zPW x b tb tq ++ (zSH x (b 5) (b 9) (bo 0) (so 0) (nn 0) ++ (zSH x (b 6) (b 10) (bo 1) (so 1) (nn 1) ++ (zSH x (b 7) (b 11) (bo 2) (so 2) (nn 2) ++ zSH x (b 8) (b 12) (bo 3) (so 3) (nn 3))))))))
/-- the class behind a call -/
def zPH (x : zX) (b : Nat → Nat) (t : Nat → Nat → Nat) (K : zT) (l2 ik : Int32) (tb tq bo so : Nat → Int32) (nn : Nat → Nat → Int64) (r : zR) (v' : Option Value) (u' : va_W) : Prop := v' = some (.int r.1) ∧ ∃ (l0 : Int32) (T : zT) (l1 : Int32), u' = zHW x b t r.2.1 l0 T l1 K l2 ik r.2.2 tb tq bo so nn
theorem zPH.mk {x : zX} {b : Nat → Nat} {t : Nat → Nat → Nat} {K : zT} {l2 ik : Int32} {tb tq bo so : Nat → Int32} {nn : Nat → Nat → Int64} {r : zR} {v : Int32} {S' T : zT} {l0 l1 : Int32} {fd' : Nat → Int32} (e : r = (v, S', fd')) : zPH x b t K l2 ik tb tq bo so nn r (some (.int v)) (zHW x b t S' l0 T l1 K l2 ik fd' tb tq bo so nn) := by
  subst e; exact ⟨rfl, l0, T, l1, rfl⟩
section STAT
variable {p : Program} {e : Env} {R : Room} {s : State} {m : MethodId} {args : Array Value} {below : List Frame} {meth : Method} {c : Code} {H : Heap} {locs : List Loc} {cells slots : Nat} {Q : State → Prop} {x : zX} {A : Nat → Prop} {ls : Array Slot} {pc : Nat} {cc : ByteArray} {rest : List Value} {ws : va_W}
theorem zgst0 (hx : p.tables.exec = Jvm.exec) (hb : c.code = cc) (hE : zE x A s) (hw : zHw x A s.heap ws H locs) (hown : s.vm.findClass RX5 = some m.cls) (hts : ∀ w ∈ zGW, w.before args s = true) (hdg : decode cc pc = .ok (.getstatic 48, 3)) (kk : W p x.1 e R s m args below meth c H locs cells slots Q (F0 m (pc + 3) ls (.ref (x.2.1.2.2 0) :: rest))) : W p x.1 e R s m args below meth c H locs cells slots Q (F0 m pc ls rest) :=
  va_gets hx hb hE.2.1.1 hw.S hown (hts _ fkX5_48) (fun _ h => h) hdg kk
theorem zgst1 (hx : p.tables.exec = Jvm.exec) (hb : c.code = cc) (hE : zE x A s) (hw : zHw x A s.heap ws H locs) (hown : s.vm.findClass RX5 = some m.cls) (hts : ∀ w ∈ zGW, w.before args s = true) (hdg : decode cc pc = .ok (.getstatic 64, 3)) (kk : W p x.1 e R s m args below meth c H locs cells slots Q (F0 m (pc + 3) ls (.ref (x.2.1.2.2 1) :: rest))) : W p x.1 e R s m args below meth c H locs cells slots Q (F0 m pc ls rest) :=
  va_gets hx hb hE.2.1.2.1 hw.S hown (hts _ fkX5_64) (fun _ h => h) hdg kk
theorem zgst2 (hx : p.tables.exec = Jvm.exec) (hb : c.code = cc) (hE : zE x A s) (hw : zHw x A s.heap ws H locs) (hown : s.vm.findClass RX5 = some m.cls) (hts : ∀ w ∈ zGW, w.before args s = true) (hdg : decode cc pc = .ok (.getstatic 116, 3)) (kk : W p x.1 e R s m args below meth c H locs cells slots Q (F0 m (pc + 3) ls (.ref (x.2.1.2.2 2) :: rest))) : W p x.1 e R s m args below meth c H locs cells slots Q (F0 m pc ls rest) :=
  va_gets hx hb hE.2.1.2.2 hw.S hown (hts _ fkX5_116) (fun _ h => h) hdg kk
theorem zsta0 (hx : p.tables.exec = Jvm.exec) (hb : c.code = cc) (hE : zE x A s) (hw : zHw x A s.heap ws H locs) (j : Nat) (hj : j < 4) {v : Int32} (hv : (zMo 0).getD j 0 = v) (hdg : decode cc pc = .ok (.iaload, 1)) (kk : W p x.1 e R s m args below meth c H locs cells slots Q (F0 m (pc + 1) ls (.int v :: rest))) : W p x.1 e R s m args below meth c H locs cells slots Q (F0 m pc ls (.int (nI j) :: .ref (x.2.1.2.2 0) :: rest)) :=
  va_ti hx hb hE.2.2.1.1 hw.S (vp_in_nI hj (by omega)) (by rw [nI_clamp (by omega), hv]) hdg kk
theorem zsta1 (hx : p.tables.exec = Jvm.exec) (hb : c.code = cc) (hE : zE x A s) (hw : zHw x A s.heap ws H locs) (j : Nat) (hj : j < 2) {v : Int32} (hv : (zMo 1).getD j 0 = v) (hdg : decode cc pc = .ok (.iaload, 1)) (kk : W p x.1 e R s m args below meth c H locs cells slots Q (F0 m (pc + 1) ls (.int v :: rest))) : W p x.1 e R s m args below meth c H locs cells slots Q (F0 m pc ls (.int (nI j) :: .ref (x.2.1.2.2 1) :: rest)) :=
  va_ti hx hb hE.2.2.1.2.1 hw.S (vp_in_nI hj (by omega)) (by rw [nI_clamp (by omega), hv]) hdg kk
theorem zsta2 (hx : p.tables.exec = Jvm.exec) (hb : c.code = cc) (hE : zE x A s) (hw : zHw x A s.heap ws H locs) (j : Nat) (hj : j < 6) {v : Int32} (hv : (zMo 2).getD j 0 = v) (hdg : decode cc pc = .ok (.iaload, 1)) (kk : W p x.1 e R s m args below meth c H locs cells slots Q (F0 m (pc + 1) ls (.int v :: rest))) : W p x.1 e R s m args below meth c H locs cells slots Q (F0 m pc ls (.int (nI j) :: .ref (x.2.1.2.2 2) :: rest)) :=
  va_ti hx hb hE.2.2.1.2.2 hw.S (vp_in_nI hj (by omega)) (by rw [nI_clamp (by omega), hv]) hdg kk
end STAT
theorem zMo_t : ∀ j, j < 4 → (zMo 0).getD j 0 = ztopT (nI j) := by decide +kernel
theorem zMo_s : ∀ j, j < 2 → (zMo 1).getD j 0 = (if nI j = 0 then 99 else 1) := by decide +kernel
theorem zMo_h : ∀ j, j < 6 → 1 ≤ j → (zMo 2).getD j 0 = ztopH (nI j) := by decide +kernel
theorem zouth4 {y : Int32} (k6 : ¬ y = 6) (k7 : ¬ y = 7) (k8 : ¬ y = 8) (k9 : ¬ y = 9) : y.toInt < 6 ∨ 9 < y.toInt := by
  have h6 : y.toInt ≠ 6 := zti k6
  have h7 : y.toInt ≠ 7 := zti k7
  have h8 : y.toInt ≠ 8 := zti k8
  have h9 : y.toInt ≠ 9 := zti k9
  omega
theorem zcase6 {w : Int32} (h : 0 ≤ w ∧ w ≤ 9) (k6 : ¬ w = 6) (k7 : ¬ w = 7) (k8 : ¬ w = 8) (k9 : ¬ w = 9) : w = 0 ∨ w = 1 ∨ w = 2 ∨ w = 3 ∨ w = 4 ∨ w = 5 := by
  obtain ⟨j, hj, rfl⟩ := zBw_nat (hi := 9) h (by decide) (by decide)
  have h6 : ¬ j = 6 := fun e => k6 (by rw [e]; rfl)
  have h7 : ¬ j = 7 := fun e => k7 (by rw [e]; rfl)
  have h8 : ¬ j = 8 := fun e => k8 (by rw [e]; rfl)
  have h9 : ¬ j = 9 := fun e => k9 (by rw [e]; rfl)
  rcases (show j = 0 ∨ j = 1 ∨ j = 2 ∨ j = 3 ∨ j = 4 ∨ j = 5 by omega) with rfl | rfl | rfl | rfl | rfl | rfl
  · exact Or.inl rfl
  · exact Or.inr (Or.inl rfl)
  · exact Or.inr (Or.inr (Or.inl rfl))
  · exact Or.inr (Or.inr (Or.inr (Or.inl rfl)))
  · exact Or.inr (Or.inr (Or.inr (Or.inr (Or.inl rfl))))
  · exact Or.inr (Or.inr (Or.inr (Or.inr (Or.inr rfl))))
theorem zcase15 {w : Int32} (h : 1 ≤ w ∧ w ≤ 5) : w = 1 ∨ w = 2 ∨ w = 3 ∨ w = 4 ∨ w = 5 := by
  obtain ⟨j, hj, rfl⟩ := zBw_nat (hi := 5) h (by decide) (by decide)
  have h1 : 1 ≤ j := (nI_leI (a := 1) (by decide) (by omega)).mp h.1
  rcases (show j = 1 ∨ j = 2 ∨ j = 3 ∨ j = 4 ∨ j = 5 by omega) with rfl | rfl | rfl | rfl | rfl
  · exact Or.inl rfl
  · exact Or.inr (Or.inl rfl)
  · exact Or.inr (Or.inr (Or.inl rfl))
  · exact Or.inr (Or.inr (Or.inr (Or.inl rfl)))
  · exact Or.inr (Or.inr (Or.inr (Or.inr rfl)))
theorem zgt1 {w : Int32} (h : 0 ≤ w ∧ w ≤ 3) (k0 : ¬ w = 0) (k1 : ¬ w = 1) : ¬ w ≤ 1 := by
  intro h1
  have e0 : w.toInt ≠ 0 := zti k0
  have e1 : w.toInt ≠ 1 := zti k1
  have a1 : (0 : Int) ≤ w.toInt := Int32.le_iff_toInt_le.mp h.1
  have a2 : w.toInt ≤ 1 := Int32.le_iff_toInt_le.mp h1
  omega
theorem zFs_le {h : Nat} {b : Bool} : ∀ (d : Nat) (T : zT) (n m : Nat), zFs h b d T n = some m → m ≤ n + d
  | 0, _, _, _, e => by cases e
  | d + 1, T, n, m, e => by
    by_cases c : decide (¬ T 6 h = 0) = b
    · rw [zFs_t c] at e; cases e; omega
    · rw [zFs_f c] at e
      have := zFs_le d (zWk T) (n + 1) m e
      omega
