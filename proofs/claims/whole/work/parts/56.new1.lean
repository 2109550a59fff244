/-! CONSTRUCTORS: rows -/
theorem zaI : Cond.arrayClass .int ∈ zGW := zgw (i := 152) (by decide +kernel) rfl
theorem zaL : Cond.arrayClass .long ∈ zGW := zgw (i := 201) (by decide +kernel) rfl
section ROWS5
variable {p : Program} {e : Env} {R : Room} {s : State} {m : MethodId} {args : Array Value} {below : List Frame} {meth : Method} {c : Code} {H H0 : Heap} {locs : List Loc} {cells slots : Nat} {Q : State → Prop} {x : zX} {A : Nat → Prop} {ls : Array Slot} {pc : Nat} {cc : ByteArray} {rest : List Value} {ws : va_W} {a : Nat}
theorem znewI (hx : p.tables.exec = Jvm.exec) (hb : c.code = cc) (hts : ∀ w ∈ zGW, w.before args s = true) (hK : va_K (zD x) vwCl (zTy x) s) (hA : ∀ q, H0.size ≤ q → A q) (hw : zHw x A H0 ws H locs) {n : Int32} {N : Nat} (hn : ¬ n < 0) (hN : n.toNatClampNeg = N) (hN2 : N ≤ 1000) (hcells : cells + 1 ≤ R.cells) (hslots : slots + N ≤ R.slots) (hdg : decode cc pc = .ok (.newarray .int, 2))
    (kk : ∀ (q : Nat) (H1 : Heap), zHw x A H0 (ws ++ [(q, .inl (zI x, N, .inl (fun _ => 0)))]) H1 locs → W p x.1 e R s m args below meth c H1 locs (cells + 1) (slots + N) Q (F0 m (pc + 2) ls (.ref q :: rest))) : W p x.1 e R s m args below meth c H locs cells slots Q (F0 m pc ls (.int n :: rest)) :=
  va_newa (atype := .int) (a0 := (N, .inl (fun _ => 0))) hx hb (hts _ zaI) rfl hK hw.P hw.D hw.S hA (fun _ => rfl) hn hN (show N * 4 ≤ 536870912 by omega) hcells hslots hdg (fun q cA H1 hK1 hP hD hS => by
    have e1 := (hK1.2 3 _ rfl).2
    have e2 := (hK.2 0 _ rfl).2
    have e3 : cA = zI x := Option.some.inj (e1.symm.trans e2)
    subst e3
    exact kk q H1 ⟨hP, hD, hS⟩)
theorem znewL (hx : p.tables.exec = Jvm.exec) (hb : c.code = cc) (hts : ∀ w ∈ zGW, w.before args s = true) (hK : va_K (zD x) vwCl (zTy x) s) (hA : ∀ q, H0.size ≤ q → A q) (hw : zHw x A H0 ws H locs) {n : Int32} {N : Nat} (hn : ¬ n < 0) (hN : n.toNatClampNeg = N) (hN2 : N ≤ 1000) (hcells : cells + 1 ≤ R.cells) (hslots : slots + N ≤ R.slots) (hdg : decode cc pc = .ok (.newarray .long, 2))
    (kk : ∀ (q : Nat) (H1 : Heap), zHw x A H0 (ws ++ [(q, .inl (zJ x, N, .inr (.inl (fun _ => 0))))]) H1 locs → W p x.1 e R s m args below meth c H1 locs (cells + 1) (slots + N) Q (F0 m (pc + 2) ls (.ref q :: rest))) : W p x.1 e R s m args below meth c H locs cells slots Q (F0 m pc ls (.int n :: rest)) :=
  va_newa (atype := .long) (a0 := (N, .inr (.inl (fun _ => 0)))) hx hb (hts _ zaL) rfl hK hw.P hw.D hw.S hA (fun _ => rfl) hn hN (show N * 8 ≤ 536870912 by omega) hcells hslots hdg (fun q cA H1 hK1 hP hD hS => by
    have e1 := (hK1.2 3 _ rfl).2
    have e2 := (hK.2 1 _ rfl).2
    have e3 : cA = zJ x := Option.some.inj (e1.symm.trans e2)
    subst e3
    exact kk q H1 ⟨hP, hD, hS⟩)
end ROWS5
