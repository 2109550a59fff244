/-! ROWS COPIED WHOLE -/
theorem arrV_cong {cA : ClassId} {n : Nat} {f g : Nat → Value} (h : ∀ j, j < n → f j = g j) : arrV cA n f = arrV cA n g := by
  unfold arrV
  have e : (Array.ofFn (n := n) fun j => f j.val) = Array.ofFn (n := n) fun j => g j.val := congrArg Array.ofFn (funext fun j => h j.val j.isLt)
  rw [e]
theorem zHw.put {x : zX} {A : Nat → Prop} {H0 H : Heap} {ws : va_W} {locs : List Loc} (h : zHw x A H0 ws H locs) (q0 : Nat) {a : Nat} {e0 e : va_E} (ha : ws[q0]? = some (a, e0)) (he : va_at (zD x) vwCl (a, e0) H → va_at (zD x) vwCl (a, e) H) : zHw x A H0 (ws.set q0 (a, e)) H locs := by
  refine ⟨fun k q hq => ?_, h.D.set ha, h.S⟩
  by_cases hk : q0 = k
  · subst hk
    have hl : q0 < ws.length := (List.getElem?_eq_some_iff.mp ha).1
    rw [List.getElem?_set_self hl] at hq
    cases hq
    exact he (h.P q0 _ ha)
  · rw [List.getElem?_set_ne hk] at hq
    exact h.P k q hq
/-- a row of ints under another function, the same up to its length -/
theorem zHw.cong {x : zX} {A : Nat → Prop} {H0 H : Heap} {ws : va_W} {locs : List Loc} (h : zHw x A H0 ws H locs) (q0 : Nat) {a : Nat} {cA : ClassId} {n : Nat} {f : Nat → Int32} (g : Nat → Int32) (ha : ws[q0]? = some (a, .inl (cA, n, .inl f))) (hfg : ∀ j, j < n → f j = g j) : zHw x A H0 (ws.set q0 (a, .inl (cA, n, .inl g))) H locs :=
  h.put q0 ha (fun z => by
    have z : H[a]? = some (vp_cell cA (n, .inl f)) := z
    show H[a]? = some (vp_cell cA (n, .inl g))
    rw [z, vp_cell_i, vp_cell_i, arrV_cong (fun j hj => congrArg Value.int (hfg j hj))])
theorem zHw.congL {x : zX} {A : Nat → Prop} {H0 H : Heap} {ws : va_W} {locs : List Loc} (h : zHw x A H0 ws H locs) (q0 : Nat) {a : Nat} {cA : ClassId} {n : Nat} {f : Nat → Int64} (g : Nat → Int64) (ha : ws[q0]? = some (a, .inl (cA, n, .inr (.inl f)))) (hfg : ∀ j, j < n → f j = g j) : zHw x A H0 (ws.set q0 (a, .inl (cA, n, .inr (.inl g)))) H locs :=
  h.put q0 ha (fun z => by
    have z : H[a]? = some (vp_cell cA (n, .inr (.inl f))) := z
    show H[a]? = some (vp_cell cA (n, .inr (.inl g)))
    rw [z, vp_cell_l, vp_cell_l, arrV_cong (fun j hj => congrArg Value.long (hfg j hj))])
theorem acX3 : Cond.methodLink RX3 61 arraycopyName ∈ zGW := zgw (i := 417) (by decide +kernel) rfl
theorem acX5 : Cond.methodLink RX5 245 arraycopyName ∈ zGW := zgw (i := 645) (by decide +kernel) rfl
theorem acN : Cond.native arraycopyName ∈ zGW := zgw (i := 419) (by decide +kernel) rfl
theorem acS : Cond.static arraycopyName ∈ zGW := zgw (i := 418) (by decide +kernel) rfl
theorem acI : Cond.initialized "java/lang/System" ∈ zGW := zgw (i := 60) (by decide +kernel) rfl
section COPY
variable {p : Program} {e : Env} {R : Room} {s : State} {m : MethodId} {args : Array Value} {below : List Frame} {meth : Method} {c : Code} {H H0 : Heap} {locs : List Loc} {cells slots : Nat} {Q : State → Prop} {x : zX} {A : Nat → Prop} {ls : Array Slot} {pc : Nat} {cc : ByteArray} {rest : List Value} {ws : va_W} {a : Nat}
theorem zcpyW {own : String} {index : Nat} (hx : p.tables.exec = Jvm.exec) (hb : c.code = cc) (hml : c.maxLocals = ls.size) (hown : s.vm.findClass own = some m.cls) (hts : ∀ w ∈ zGW, w.before args s = true) (hl : Cond.methodLink own index arraycopyName ∈ zGW) (hK : va_K (zD x) vwCl (zTy x) s) (hw : zHw x A H0 ws H locs) (q0 q1 : Nat) {a0 n : Nat} {f g : Nat → Int32} (ha0 : ws[q0]? = some (a0, .inl (zI x, n, .inl f))) (ha1 : ws[q1]? = some (a, .inl (zI x, n, .inl g))) {len : Int32} (hlen : len = nI n) (hn : n < 2147483648)
    (hR : 1 ≤ R.frames ∧ (rest.map fun v => v.category).sum + (nativeFrameWords "java/lang/System" "arraycopy" 5 + 11) ≤ R.locals) (hdg : decode cc pc = .ok (.invokestatic index, 3))
    (kk : ∀ (H1 : Heap) (locs1 : List Loc), zHw x A H0 (ws.set q1 (a, .inl (zI x, n, .inl f))) H1 locs1 → W p x.1 e R s m args below meth c H1 locs1 cells slots Q (F0 m (pc + 3) ls rest)) : W p x.1 e R s m args below meth c H locs cells slots Q (F0 m pc ls (.int len :: .int 0 :: .ref a :: .int 0 :: .ref a0 :: rest)) := by
  subst hlen
  have z0 : (0 : Int32).toNatClampNeg = 0 := rfl
  have zn : (nI n).toNatClampNeg = n := nI_clamp hn
  refine va_copyi hx hb hml hown (hts _ hl) (hts _ acN) (hts _ acS) (hts _ acI) hK hw.P hw.D hw.S q0 q1 0 0 ha0 ha1 rfl rfl rfl (by decide) (by decide) (nI_pos hn) (by rw [z0, zn]; omega) (by rw [z0, zn]; omega) (fun _ _ => rfl) hR.1 hR.2 hdg (fun H1 l1 h1 h2 h3 => kk H1 l1 ?_)
  have hl1 : q1 < ws.length := (List.getElem?_eq_some_iff.mp ha1).1
  have h := zHw.cong (x := x) (A := A) (H0 := H0) (locs := l1) ⟨h1, h2, h3⟩ q1 f (List.getElem?_set_self hl1) (fun j hj => by
    rw [z0, zn, pk_cpy_in (Nat.zero_le j) (by omega)]; congr 1; omega)
  rw [List.set_set] at h
  exact h
end COPY
/-- a column replaced -/
def zV (S : zT) (c : Nat) (f : Nat → Int32) : zT := fun c' => if c' = c then f else S c'
