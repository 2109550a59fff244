/-! CONSTRUCTORS: rows for objects, calls, arrays of sheets -/
theorem zob1 : Cond.instanceMethod Lib.objectInit ∈ zGW := zgw (i := 73) (by decide +kernel) rfl
theorem zob2 : Cond.code Lib.objectInit ⟨#[0xb1]⟩ 1 none ∈ zGW := zgw (i := 74) (by decide +kernel) rfl
theorem zobX5 : Cond.methodLink RX5 1 Lib.objectInit ∈ zGW := zgw (i := 72) (by decide +kernel) rfl
theorem zobX3 : Cond.methodLink RX3 3 Lib.objectInit ∈ zGW := zgw (i := 80) (by decide +kernel) rfl
theorem zobX2 : Cond.methodLink RX2 3 Lib.objectInit ∈ zGW := zgw (i := 158) (by decide +kernel) rfl
theorem zobX1 : Cond.methodLink RX1 3 Lib.objectInit ∈ zGW := zgw (i := 187) (by decide +kernel) rfl
theorem zobX6 : Cond.methodLink RX6 1 Lib.objectInit ∈ zGW := zgw (i := 697) (by decide +kernel) rfl
theorem zclL5 : Cond.classLink RL 7 RX5 ∈ zGW := zgw (i := 67) (by decide +kernel) rfl
theorem zclL6 : Cond.classLink RL 10 RX6 ∈ zGW := zgw (i := 692) (by decide +kernel) rfl
theorem zclX3 : Cond.classLink RX5 7 RX3 ∈ zGW := zgw (i := 75) (by decide +kernel) rfl
theorem zclX2 : Cond.classLink RX5 26 RX2 ∈ zGW := zgw (i := 153) (by decide +kernel) rfl
theorem zclX1 : Cond.classLink RX5 33 RX1 ∈ zGW := zgw (i := 181) (by decide +kernel) rfl
theorem zinX5 : Cond.instantiable RX5 7 ∈ zGW := zgw (i := 68) (by decide +kernel) rfl
theorem zinX3 : Cond.instantiable RX3 16 ∈ zGW := zgw (i := 76) (by decide +kernel) rfl
theorem zinX2 : Cond.instantiable RX2 6 ∈ zGW := zgw (i := 154) (by decide +kernel) rfl
theorem zinX1 : Cond.instantiable RX1 3 ∈ zGW := zgw (i := 183) (by decide +kernel) rfl
theorem zinX6 : Cond.instantiable RX6 16 ∈ zGW := zgw (i := 693) (by decide +kernel) rfl
theorem dfX1 : ∀ j, j < 3 → defaultValue (tyX1 j) = vp_V [.int 0, .int 0, .null] j := fun j hj => by
  rcases (show j = 0 ∨ j = 1 ∨ j = 2 by omega) with rfl | rfl | rfl <;> rfl
theorem dfX2 : ∀ j, j < 6 → defaultValue (tyX2 j) = vp_V [.null, .int 0, .int 0, .int 0, .int 0, .int 0] j := fun j hj => by
  rcases (show j = 0 ∨ j = 1 ∨ j = 2 ∨ j = 3 ∨ j = 4 ∨ j = 5 by omega) with rfl | rfl | rfl | rfl | rfl | rfl <;> rfl
theorem dfX3 : ∀ j, j < 16 → defaultValue (tyX3 j) = vp_V [.int 0, .int 0, .int 0, .int 0, .int 0, .int 0, .int 0, .null, .null, .int 0, .null, .null, .null, .null, .null, .null] j := fun j hj => by
  rcases (show j = 0 ∨ j = 1 ∨ j = 2 ∨ j = 3 ∨ j = 4 ∨ j = 5 ∨ j = 6 ∨ j = 7 ∨ j = 8 ∨ j = 9 ∨ j = 10 ∨ j = 11 ∨ j = 12 ∨ j = 13 ∨ j = 14 ∨ j = 15 by omega) with rfl | rfl | rfl | rfl | rfl | rfl | rfl | rfl | rfl | rfl | rfl | rfl | rfl | rfl | rfl | rfl <;> rfl
theorem dfX5 : ∀ j, j < 7 → defaultValue (tyX5 j) = vp_V [.null, .null, .null, .int 0, .null, .null, .null] j := fun j hj => by
  rcases (show j = 0 ∨ j = 1 ∨ j = 2 ∨ j = 3 ∨ j = 4 ∨ j = 5 ∨ j = 6 by omega) with rfl | rfl | rfl | rfl | rfl | rfl | rfl <;> rfl
theorem dfX6 : ∀ j, j < 16 → defaultValue (tyX6 j) = vp_V [.null, .null, .null, .null, .null, .int 0, .null, .int 0, .int 0, .int 0, .int 0, .int 0, .null, .null, .null, .null] j := fun j hj => by
  rcases (show j = 0 ∨ j = 1 ∨ j = 2 ∨ j = 3 ∨ j = 4 ∨ j = 5 ∨ j = 6 ∨ j = 7 ∨ j = 8 ∨ j = 9 ∨ j = 10 ∨ j = 11 ∨ j = 12 ∨ j = 13 ∨ j = 14 ∨ j = 15 by omega) with rfl | rfl | rfl | rfl | rfl | rfl | rfl | rfl | rfl | rfl | rfl | rfl | rfl | rfl | rfl | rfl <;> rfl
/-- addresses out of a list -/
def zad (l : List Nat) : Nat → Nat := fun i => l.getD i 0
/-- the first town -/
def zS0 : zT := zU (zU (zU (zU (zU (zU (zU (zU (zU (fun _ _ => 0) 0 2 500) 0 3 500) 0 4 1) 1 0 20) 1 1 20) 1 2 20) 1 3 20) 1 4 20) 1 5 20
theorem zflat_zero : zflat (fun _ _ => 0) = fun _ => 0 := by funext i; simp [zflat]
/-- what the class's constructor needs of the tables besides -/
def zE5 (U : State) : Prop := va_Nw (.methodLinkNest RX5 9 yX3_init "HoleFills") U ∧ va_Nw (.methodLinkNest RX5 28 yX2_init "HoleFills") U ∧ va_Nw (.methodLinkNest RX5 43 yX1_init "HoleFills") U ∧ va_AO "HoleFills$Sheet" U
theorem zE5.at {s U : State} (h : zE5 s) (hW : s.WarmedH U.vm) : zE5 U := ⟨h.1.warmM hW, h.2.1.warmM hW, h.2.2.1.warmM hW, h.2.2.2.moved hW.alike⟩
theorem zE5.blind {U : State} {g : JFrame} {mk : MethodId} {a : Array Value} (h : zE5 U) : zE5 (U.calling g mk a) := ⟨h.1.same rfl rfl, h.2.1.same rfl rfl, h.2.2.1.same rfl rfl, h.2.2.2.moved (Vm.Alike.refl U.vm)⟩
def zK5 (x : zX) (w : va_W) (sz : Nat) (U : State) : Prop := zKP x w sz U ∧ zE5 U
def zFM (x : zX) (me : zMe) (k mc ms : Nat) (as : List Value) (w : va_W) (Post : va_W → Prop) : Prop := ∀ sz : Nat, Met x.1 me.1 (zws me) (zRN k mc ms) (va_Pc as (zK5 x w sz)) (zQN x Post (va_A w sz)) mc ms (va_A w sz)
theorem zK5.blind {x : zX} {as : List Value} {w : va_W} {sz : Nat} : FrameBlind (va_Pc as (zK5 x w sz)) := fun a U g mk q => by
  obtain ⟨q0, q1, q2⟩ := q
  exact ⟨q0, (zKP.blind (as := as) a U g mk ⟨q0, q1⟩).2, q2.blind⟩
theorem zFM.start {x : zX} {me : zMe} {k mc ms : Nat} {as : List Value} {w : va_W} {Post : va_W → Prop} (own : String) (cc : ByteArray) (nL : Nat) (hm : me.2 = (cc, nL, none)) (hown : me.1.cls = own) (hin : me.1.name = "<init>") (hy : plainName me.1.cls = true) (hn : (lg_sl as).length ≤ nL)
    (body : ∀ (p : Program) (e : Env) (s : State) (m : MethodId) (ar : Array Value) (below : List Frame) (meth : Method) (c : Code) (ls : Array Slot) (A : Nat → Prop) (Q : State → Prop), p.tables.exec = Jvm.exec → c.code = cc → meth.sig.returnType = none → c.maxLocals = nL → s.vm.findClass own = some m.cls → (∀ w ∈ zGW, w.before ar s = true) → meth.locks = false → meth.name = "<init>" → va_K (zD x) vwCl (zTy x) s → zE x A s → zE5 s → (∀ q, s.heap.size ≤ q → A q) → Q = zQO below x Post A mc ms ar s → lv_has ls nL (lv_args 0 as) → zHw x A s.heap w s.heap [] → W p x.1 e (zRN k mc ms) s m ar below meth c s.heap [] 0 0 Q (F0 m 0 ls [])) : zFM x me k mc ms as w Post := by
  obtain ⟨y, cc', nL', ret'⟩ := me
  cases hm
  subst hown
  intro sz
  refine Met.ofW (cc := cc) (maxL := nL) (ret := none) (ws := zws (y, cc, nL, none)) hy rfl ?_
  intro p e s m args below meth c s₁ B hml hv
  obtain ⟨rfl, ⟨hsz, hP, hK, hD0, hE⟩, hE5⟩ := hv
  subst hsz
  have hl := lv_entry as (n := nL) hn
  rw [lg_entry_eq]
  have hts := atoms_spec (ws := zws (y, cc, nL, none)) B.pre
  exact body p e s m _ below meth c _ (va_A w s.heap.size) _ B.exec B.bytes B.returns hml (findClass_of_methodNamed B.named) (fun w hw => hts w (List.mem_cons_of_mem _ hw)) B.notSynchronized ((name_of_methodNamed B.named B.method).1.trans hin) hK hE hE5 (fun q h => Or.inr h) rfl hl ⟨hP, hD0.self, va_S.rf⟩
/-- the same cell under another function -/
theorem zHw.refn {x : zX} {A : Nat → Prop} {H0 H : Heap} {ws : va_W} {locs : List Loc} (h : zHw x A H0 ws H locs) (q0 : Nat) {a n : Nat} {cA : ClassId} {f : Nat → Option Nat} (g : Nat → Option Nat) (ha : ws[q0]? = some (a, .inl (cA, n, .inr (.inr (.inr (.inr f)))))) (hfg : ∀ j, j < n → f j = g j) : zHw x A H0 (ws.set q0 (a, .inl (cA, n, .inr (.inr (.inr (.inr g)))))) H locs := by
  refine ⟨h.P.set h.D ha ?_ (fun _ _ => rfl), h.D.set ha, h.S⟩
  have h1 : H[a]? = some (vp_cell cA (n, .inr (.inr (.inr (.inr f))))) := h.P q0 _ ha
  show H[a]? = some (vp_cell cA (n, .inr (.inr (.inr (.inr g)))))
  rw [h1, vp_cell_q, vp_cell_q]
  unfold arrV
  congr 3
  funext j
  show va_rf (f j.val) = va_rf (g j.val)
  rw [hfg j.val j.isLt]
section ROWS7
variable {p : Program} {e : Env} {R : Room} {s : State} {m : MethodId} {args : Array Value} {below : List Frame} {meth : Method} {c : Code} {H H0 : Heap} {locs : List Loc} {cells slots : Nat} {Q : State → Prop} {x : zX} {A : Nat → Prop} {ls : Array Slot} {pc : Nat} {cc : ByteArray} {rest : List Value} {ws : va_W} {a : Nat}
theorem zobj {own : String} {idx nL b : Nat} (hx : p.tables.exec = Jvm.exec) (hb : c.code = cc) (hml : c.maxLocals = nL) (hown : s.vm.findClass own = some m.cls) (hts : ∀ w ∈ zGW, w.before args s = true) (hl : ls.size = nL) (lk : Cond.methodLink own idx Lib.objectInit ∈ zGW) (hR : 1 ≤ R.frames ∧ 20 ≤ R.locals) (hcat : (rest.map fun v => v.category).sum ≤ 8) (hdg : decode cc pc = .ok (.invokespecial idx, 3))
    (kk : W p x.1 e R s m args below meth c H locs cells slots Q (F0 m (pc + 3) ls rest)) : W p x.1 e R s m args below meth c H locs cells slots Q (F0 m pc ls (.ref b :: rest)) :=
  W.objInit hx hb hown (hts _ lk) (hts _ zob1) (hts _ zob2) rfl (hl.trans hml.symm) rfl hdg hR.1 (by have h8 := lv_room (m := m) (pc := pc) (ls := ls) (rest := .ref b :: rest) hcat; have := hR.2; omega) (W.eq (g2 := F0 m (pc + 3) ls rest) rfl kk)
theorem znewO {own C : String} {T : u_T} {N ci index : Nat} (hx : p.tables.exec = Jvm.exec) (hb : c.code = cc) (hts : ∀ w ∈ zGW, w.before args s = true) (hin : ∀ w ∈ u_ws C T N, w ∈ zGW) (ty : Nat → FieldType) (hty : ∀ k, k < N → parseFieldDescriptor (T k).2.2.1 = some (ty k)) (hown : s.vm.findClass own = some m.cls) (hcl : Cond.classLink own index C ∈ zGW) (hinst : Cond.instantiable C N ∈ zGW) (hini : Cond.initialized C ∈ zGW) (hK : va_K (zD x) vwCl (zTy x) s) (hA : ∀ q, H0.size ≤ q → A q) (hw : zHw x A H0 ws H locs) (hc : vwCl[ci]? = some (C, T, N)) {fs : List Value} (hfs : ∀ j, j < N → defaultValue (ty j) = vp_V fs j) (hcells : cells + 1 ≤ R.cells) (hslots : slots + N ≤ R.slots) (hdg : decode cc pc = .ok (.new index, 3))
    (kk : ∀ (q : Nat) (H1 : Heap), zHw x A H0 (ws ++ [(q, .inr (ci, fs))]) H1 locs → W p x.1 e R s m args below meth c H1 locs (cells + 1) (slots + N) Q (F0 m (pc + 3) ls (.ref q :: rest))) : W p x.1 e R s m args below meth c H locs cells slots Q (F0 m pc ls rest) :=
  va_new hx hb hts hin ty hty hown (hts _ hcl) (hts _ hinst) (hts _ hini) hK hw.P hw.D hw.S hA hc hfs hcells hslots hdg (fun q H1 hP hD hS => kk q H1 ⟨hP, hD, hS⟩)
theorem znewQ (hx : p.tables.exec = Jvm.exec) (hb : c.code = cc) (hts : ∀ w ∈ zGW, w.before args s = true) (hown : s.vm.findClass RX5 = some m.cls) (hAO : va_AO "HoleFills$Sheet" s) (hK : va_K (zD x) vwCl (zTy x) s) (hA : ∀ q, H0.size ≤ q → A q) (hw : zHw x A H0 ws H locs) {n : Int32} {N : Nat} (hn : ¬ n < 0) (hN : n.toNatClampNeg = N) (hN2 : N ≤ 1000) (hcells : cells + 1 ≤ R.cells) (hslots : slots + N ≤ R.slots) (hdg : decode cc pc = .ok (.anewarray 33, 3))
    (kk : ∀ (q : Nat) (H1 : Heap), zHw x A H0 (ws ++ [(q, .inl (zO x, N, .inr (.inr (.inr (.inr (fun _ => none))))))]) H1 locs → W p x.1 e R s m args below meth c H1 locs (cells + 1) (slots + N) Q (F0 m (pc + 3) ls (.ref q :: rest))) : W p x.1 e R s m args below meth c H locs cells slots Q (F0 m pc ls (.int n :: rest)) :=
  va_newq (C := "HoleFills$Sheet") hx hb hown (hts _ zclX1) hAO hK hw.P hw.D hw.S hA hn hN (by omega) hcells hslots hdg (fun q cA H1 hK1 hP hD hS => by
    obtain ⟨-, kA, comp, -, -, -, e1⟩ := hK1.2 3 _ rfl
    obtain ⟨-, kA2, comp2, -, -, -, e2⟩ := hK.2 2 _ rfl
    have e3 : cA = zO x := Option.some.inj (e1.symm.trans e2)
    subst e3
    exact kk q H1 ⟨hP, hD, hS⟩)
theorem zasq (hx : p.tables.exec = Jvm.exec) (hb : c.code = cc) (hK : va_K (zD x) vwCl (zTy x) s) (hw : zHw x A H0 ws H locs) (q0 qk j : Nat) {n v : Nat} {vs : List Value} {f : Nat → Option Nat} (ha : ws[q0]? = some (a, .inl (zO x, n, .inr (.inr (.inr (.inr f)))))) (hv : ws[qk]? = some (v, .inr (0, vs))) {i : Int32} (hi : i = nI j) (hj : j < n) (hn : n < 2147483648) (hdg : decode cc pc = .ok (.aastore, 1))
    (kk : ∀ (H1 : Heap) (locs1 : List Loc), zHw x A H0 (ws.set q0 (a, .inl (zO x, n, .inr (.inr (.inr (.inr (va_up f j (some v)))))))) H1 locs1 → W p x.1 e R s m args below meth c H1 locs1 cells slots Q (F0 m (pc + 1) ls rest)) : W p x.1 e R s m args below meth c H locs cells slots Q (F0 m pc ls (.ref v :: .int i :: .ref a :: rest)) :=
  va_astq (r := (RX1, TX1, 3)) hx hb hK hw.P hw.D hw.S q0 2 qk 0 ha rfl hv rfl (zin j hi hj hn) hdg (by rw [hi, nI_clamp (Nat.lt_trans hj hn)]; exact fun H1 l1 h1 h2 h3 => kk H1 l1 ⟨h1, h2, h3⟩)
/-- a constructor has run -/
theorem zFN.ran {Post : va_W → Prop} {E : va_E} {b : Nat} {av : Array Value} {st0 : List Value} {mc ms : Nat} (hA : ∀ q, H0.size ≤ q → A q) (hw : zHw x A H0 (ws ++ [(b, E)]) H locs) (hr : va_Run p x.1 e R s m args below meth c H locs cells slots mc ms (F0 m pc ls st0) rest (zQN x Post (va_A [(b, E)] H.size) av) (va_A [(b, E)] H.size))
    (kk : ∀ (u : va_W) (H1 : Heap) (locs1 : List Loc), Post u → zHw x A H0 (ws ++ u) H1 locs1 → W p x.1 e R s m args below meth c H1 locs1 (cells + mc) (slots + ms) Q (F0 m (pc + 3) ls rest)) : W p x.1 e R s m args below meth c H locs cells slots Q (F0 m pc ls st0) := by
  have hF : ∀ q, va_A [(b, E)] H.size q → A q := fun q h => by
    rcases h with ⟨k, e, h⟩ | h
    · exact hw.D.right.2 k _ h
    · exact hA q (Nat.le_trans hw.S.1 h)
  have apart : ∀ (k : Nat) (q : Nat × va_E), ws[k]? = some q → q.1 < H.size ∧ ¬ va_A [(b, E)] H.size q.1 := fun k q hq => by
    have hlt := (hw.P.left k q hq).lt
    refine ⟨hlt, fun h => ?_⟩
    rcases h with ⟨j, e, h⟩ | h
    · exact hw.D.cross hq h rfl
    · omega
  refine va_callv (a := av) (S := va_W) (post := Post) (B := fun u t => va_P (zD x) vwCl u t.heap ∧ va_D (va_A [(b, E)] H.size) u) hr hw.S (fun q _ h => hF q h) hF (fun u t H1 locs1 ht hvm hp hB hz1 hk1 hS1 => ?_)
  obtain ⟨hP1, hD1⟩ := hB
  rw [ht] at hP1
  exact kk u H1 locs1 hp ⟨va_P.app (hw.P.left.kept fun k q hq => hk1 q.1 (apart k q hq).1 (apart k q hq).2) hP1, va_D.app hw.D.left (hD1.weaken fun k q _ h => hF q.1 h) (fun i j y z hy hz hyz => (apart i y hy).2 (by rw [hyz]; exact hD1.2 j z hz)), hS1⟩
theorem zcIN {me : zMe} {k mc ms i nL : Nat} {own host : String} {b : Nat} {E : va_E} {Post : va_W → Prop} (hx : p.tables.exec = Jvm.exec) (hb : c.code = cc) (hml : c.maxLocals = nL) (hown : s.vm.findClass own = some m.cls) (hts : ∀ w ∈ zGW, w.before args s = true) (hl : ls.size = nL) (hK : va_K (zD x) vwCl (zTy x) s) (hE : zE x A s) (hA : ∀ q, s.heap.size ≤ q → A q) (lk : zLIN own i host me 0) (hn : va_Nw (.methodLinkNest own i me.1 host) s) (hi1 : me.1.name = "<init>") (hr1 : me.2.2.2 = none) (F : zFN x me k mc ms [.ref b] [(b, E)] Post) (hR : k + 1 ≤ R.frames ∧ 19 + me.2.2.1 + 40 * k ≤ R.locals) (hf : cells + mc ≤ R.cells ∧ slots + ms ≤ R.slots) (hw : zHw x A s.heap (ws ++ [(b, E)]) H locs) (hcat : (rest.map fun v => v.category).sum ≤ 8) (hdg : decode cc pc = .ok (.invokespecial i, 3))
    (kk : ∀ (u : va_W) (H1 : Heap) (locs1 : List Loc), Post u → zHw x A s.heap (ws ++ u) H1 locs1 → W p x.1 e R s m args below meth c H1 locs1 (cells + mc) (slots + ms) Q (F0 m (pc + 3) ls rest)) : W p x.1 e R s m args below meth c H locs cells slots Q (F0 m pc ls (.ref b :: rest)) := by
  obtain ⟨y, cc', nL', ret'⟩ := me
  dsimp only at hr1 hi1 hn
  subst hr1
  have hF : ∀ q, va_A [(b, E)] H.size q → A q := fun q h => by
    rcases h with ⟨k, e, h⟩ | h
    · exact hw.D.right.2 k _ h
    · exact hA q (Nat.le_trans hw.S.1 h)
  refine zFN.ran hA hw (va_runIN (As := []) (rest := rest) ⟨hx, hb, hml, hown, hts⟩ (F H.size) ⟨va_cnB 0 hts (zgood lk.1.1) rfl rfl rfl hn (hts _ lk.1.2.1) ⟨lk.1.2.2.1.1, lk.1.2.2.1.2, lk.1.2.2.2.1⟩ ⟨hR.1, ?_⟩, hi1, hts _ lk.2⟩ ⟨zKP.blind, fun U hU hW => zKP.at hK hw.P.right hw.D.right hE hw.S hF U hU hW⟩ rfl rfl hl rfl (lv_room hcat) hdg hf) kk
  have h2 := hR.2
  show 8 + (nL' + 11) + 40 * k ≤ R.locals
  dsimp only at h2
  omega
theorem zcI {me : zMe} {k mc ms i nL : Nat} {own : String} {b : Nat} {E : va_E} {Post : va_W → Prop} (hx : p.tables.exec = Jvm.exec) (hb : c.code = cc) (hml : c.maxLocals = nL) (hown : s.vm.findClass own = some m.cls) (hts : ∀ w ∈ zGW, w.before args s = true) (hl : ls.size = nL) (hK : va_K (zD x) vwCl (zTy x) s) (hE : zE x A s) (hA : ∀ q, s.heap.size ≤ q → A q) (lk : zLI own i me 0) (hi1 : me.1.name = "<init>") (hr1 : me.2.2.2 = none) (F : zFN x me k mc ms [.ref b] [(b, E)] Post) (hR : k + 1 ≤ R.frames ∧ 19 + me.2.2.1 + 40 * k ≤ R.locals) (hf : cells + mc ≤ R.cells ∧ slots + ms ≤ R.slots) (hw : zHw x A s.heap (ws ++ [(b, E)]) H locs) (hcat : (rest.map fun v => v.category).sum ≤ 8) (hdg : decode cc pc = .ok (.invokespecial i, 3))
    (kk : ∀ (u : va_W) (H1 : Heap) (locs1 : List Loc), Post u → zHw x A s.heap (ws ++ u) H1 locs1 → W p x.1 e R s m args below meth c H1 locs1 (cells + mc) (slots + ms) Q (F0 m (pc + 3) ls rest)) : W p x.1 e R s m args below meth c H locs cells slots Q (F0 m pc ls (.ref b :: rest)) := by
  obtain ⟨y, cc', nL', ret'⟩ := me
  dsimp only at hr1 hi1
  subst hr1
  have hF : ∀ q, va_A [(b, E)] H.size q → A q := fun q h => by
    rcases h with ⟨k, e, h⟩ | h
    · exact hw.D.right.2 k _ h
    · exact hA q (Nat.le_trans hw.S.1 h)
  refine zFN.ran hA hw (va_runI (As := []) (rest := rest) ⟨hx, hb, hml, hown, hts⟩ (F H.size) ⟨callB_of 0 hts (zgood lk.1.1) rfl rfl rfl (hts _ lk.1.2.1) (hts _ lk.1.2.2.2.2) ⟨lk.1.2.2.1.1, lk.1.2.2.1.2, lk.1.2.2.2.1⟩ ⟨hR.1, ?_⟩, hi1, hts _ lk.2⟩ ⟨zKP.blind, fun U hU hW => zKP.at hK hw.P.right hw.D.right hE hw.S hF U hU hW⟩ rfl rfl hl rfl (lv_room hcat) hdg hf) kk
  have h2 := hR.2
  show 8 + (nL' + 11) + 40 * k ≤ R.locals
  dsimp only at h2
  omega
theorem zcI5 {me : zMe} {k mc ms i nL : Nat} {own : String} {b : Nat} {E : va_E} {Post : va_W → Prop} (hx : p.tables.exec = Jvm.exec) (hb : c.code = cc) (hml : c.maxLocals = nL) (hown : s.vm.findClass own = some m.cls) (hts : ∀ w ∈ zGW, w.before args s = true) (hl : ls.size = nL) (hK : va_K (zD x) vwCl (zTy x) s) (hE : zE x A s) (hE5 : zE5 s) (hA : ∀ q, s.heap.size ≤ q → A q) (lk : zLI own i me 0) (hi1 : me.1.name = "<init>") (hr1 : me.2.2.2 = none) (F : zFM x me k mc ms [.ref b] [(b, E)] Post) (hR : k + 1 ≤ R.frames ∧ 19 + me.2.2.1 + 40 * k ≤ R.locals) (hf : cells + mc ≤ R.cells ∧ slots + ms ≤ R.slots) (hw : zHw x A s.heap (ws ++ [(b, E)]) H locs) (hcat : (rest.map fun v => v.category).sum ≤ 8) (hdg : decode cc pc = .ok (.invokespecial i, 3))
    (kk : ∀ (u : va_W) (H1 : Heap) (locs1 : List Loc), Post u → zHw x A s.heap (ws ++ u) H1 locs1 → W p x.1 e R s m args below meth c H1 locs1 (cells + mc) (slots + ms) Q (F0 m (pc + 3) ls rest)) : W p x.1 e R s m args below meth c H locs cells slots Q (F0 m pc ls (.ref b :: rest)) := by
  obtain ⟨y, cc', nL', ret'⟩ := me
  dsimp only at hr1 hi1
  subst hr1
  have hF : ∀ q, va_A [(b, E)] H.size q → A q := fun q h => by
    rcases h with ⟨k, e, h⟩ | h
    · exact hw.D.right.2 k _ h
    · exact hA q (Nat.le_trans hw.S.1 h)
  refine zFN.ran hA hw (va_runI (As := []) (rest := rest) ⟨hx, hb, hml, hown, hts⟩ (F H.size) ⟨callB_of 0 hts (zgood lk.1.1) rfl rfl rfl (hts _ lk.1.2.1) (hts _ lk.1.2.2.2.2) ⟨lk.1.2.2.1.1, lk.1.2.2.1.2, lk.1.2.2.2.1⟩ ⟨hR.1, ?_⟩, hi1, hts _ lk.2⟩ ⟨zK5.blind, fun U hU hW => ⟨rfl, (zKP.at (as := [.ref b]) hK hw.P.right hw.D.right hE hw.S hF U hU hW).2, hE5.at hW⟩⟩ rfl rfl hl rfl (lv_room hcat) hdg hf) kk
  have h2 := hR.2
  show 8 + (nL' + 11) + 40 * k ≤ R.locals
  dsimp only at h2
  omega
end ROWS7
