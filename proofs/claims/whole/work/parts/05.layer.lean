/-! THE LAYER: contracts as functions; one bundle for what the heap holds; a row a call. -/
/-- the literals: whose, at which place, what they say, how long they are, their bytes -/
def zSo : List String := ["HoleFills$Kinds", "HoleFills$Kinds", "HoleFills$Kinds", "HoleFills$Kinds", "HoleFills$Kinds", "HoleFills$Kinds", "HoleFills$TownText", "HoleFills$TownText", "HoleFills$TownText", "HoleFills$TownText", "HoleFills$TownText", "HoleFills$TownText", "HoleFills$TownText", "HoleFills$TownText", "HoleFills$TownText", "HoleFills$TownText"]
def zSi : List Nat := [21, 23, 25, 27, 29, 31, 70, 72, 82, 87, 92, 44, 98, 105, 52, 62]
def zSt : List String := ["hole", "bath", "crack", "joint", "duck", "seam", "in", "size", "cold", "hot", "rung", "street", "traffic", "let", "budget", "men"]
def zSn : List Nat := [4, 4, 5, 5, 4, 4, 2, 4, 4, 3, 4, 6, 7, 3, 6, 3]
def zSb : List (List Int32) := [[104, 111, 108, 101], [98, 97, 116, 104], [99, 114, 97, 99, 107], [106, 111, 105, 110, 116], [100, 117, 99, 107], [115, 101, 97, 109], [105, 110], [115, 105, 122, 101], [99, 111, 108, 100], [104, 111, 116], [114, 117, 110, 103], [115, 116, 114, 101, 101, 116], [116, 114, 97, 102, 102, 105, 99], [108, 101, 116], [98, 117, 100, 103, 101, 116], [109, 101, 110]]
/-- the rows written out in the text: what may be set at most -/
def zMo (k : Nat) : List Int32 := if k = 0 then [99999, 99999, 6, 1] else if k = 1 then [99, 1] else [5, 5, 99, 2, 999, 1]
/-- what a claim's walk stands in: launch; addresses of literals, of their bytes, of static rows; classes; classes of the rows of ints, longs, sheets -/
abbrev zX : Type := Launch × ((Nat → Nat) × (Nat → Nat) × (Nat → Nat)) × va_G × ClassId × ClassId × ClassId
abbrev zD (x : zX) : va_G := x.2.2.1
abbrev zI (x : zX) : ClassId := x.2.2.2.1
abbrev zJ (x : zX) : ClassId := x.2.2.2.2.1
abbrev zO (x : zX) : ClassId := x.2.2.2.2.2
abbrev zTy (x : zX) : List (ClassId × FieldType) := [(zI x, .int), (zJ x, .long), (zO x, .object "HoleFills$Sheet")]
/-- what stands outside the worlds and stays: links between nest mates, static rows, literals -/
def zE (x : zX) (A : Nat → Prop) (U : State) : Prop :=
  (va_Nw (.methodLinkNest RX3 67 yX5_isStreet "HoleFills") U ∧ va_Nw (.methodLinkNest RX4 94 yX5_isStreet "HoleFills") U) ∧
  (va_Z "HoleFills" "MOST_OF_TOWN" "[I" (.ref (x.2.1.2.2 0)) A U U.heap ∧ va_Z "HoleFills" "MOST_OF_STREET" "[I" (.ref (x.2.1.2.2 1)) A U U.heap ∧ va_Z "HoleFills" "MOST_OF_HOLE" "[I" (.ref (x.2.1.2.2 2)) A U U.heap) ∧
  (va_T .int (x.2.1.2.2 0) 4 (fun j => .int ((zMo 0).getD j 0)) A U U.heap ∧ va_T .int (x.2.1.2.2 1) 2 (fun j => .int ((zMo 1).getD j 0)) A U U.heap ∧ va_T .int (x.2.1.2.2 2) 6 (fun j => .int ((zMo 2).getD j 0)) A U U.heap) ∧
  (va_Z "java/lang/String" "COMPACT_STRINGS" "Z" (.int 1) A U U.heap ∧ va_Zq "jdk/internal/util/Preconditions" "SIOOBE_FORMATTER" "Ljava/util/function/BiFunction;" A U U.heap) ∧
  (∀ i : Nat, i < 16 → vk_R (zSo.getD i "") (zSi.getD i 0) (zSt.getD i "") (x.2.1.1 i) U) ∧ vk_S 16 zSn zSb x.2.1.1 x.2.1.2.1 A U U.heap
theorem zE.at {x : zX} {A B : Nat → Prop} {s U : State} {H : Heap} {locs : List Loc} (h : zE x A s) (hS : va_S A s.heap H locs) (hU : U.heap = H) (hW : s.WarmedH U.vm) (hB : ∀ q, B q → A q) : zE x B U := by
  obtain ⟨⟨n1, n2⟩, ⟨z1, z2, z3⟩, ⟨t1, t2, t3⟩, ⟨c1, c2⟩, r, k⟩ := h
  have kp : ∀ a : Nat, a < s.heap.size → ¬ A a → U.heap[a]? = s.heap[a]? := fun a h1 h2 => by rw [hU]; exact hS.2.1 a h1 h2
  have mz : ∀ {C n d : String} {v : Value}, va_Z C n d v A s s.heap → va_Z C n d v B U U.heap := fun hz => ((hz.kept kp).moved hW.alike).narrow hB
  have mt : ∀ {ty : FieldType} {t N : Nat} {f : Nat → Value}, va_T ty t N f A s s.heap → va_T ty t N f B U U.heap := fun hz => ((hz.kept kp).moved hW.alike).narrow hB
  exact ⟨⟨n1.warmM hW, n2.warmM hW⟩, ⟨mz z1, mz z2, mz z3⟩, ⟨mt t1, mt t2, mt t3⟩, ⟨mz c1, ((c2.kept kp).moved hW.alike).narrow hB⟩, fun i hi => (r i hi).warm hW, ((k.kept kp).moved hW.alike).narrow hB⟩
theorem zE.blind {x : zX} {A : Nat → Prop} {U : State} {g : JFrame} {mk : MethodId} {a : Array Value} (h : zE x A U) : zE x A (U.calling g mk a) := by
  obtain ⟨⟨n1, n2⟩, ⟨z1, z2, z3⟩, ⟨t1, t2, t3⟩, ⟨c1, c2⟩, r, k⟩ := h
  have al : U.vm.Alike (U.calling g mk a).vm := Vm.Alike.refl U.vm
  have mz : ∀ {C n d : String} {v : Value}, va_Z C n d v A U U.heap → va_Z C n d v A (U.calling g mk a) (U.calling g mk a).heap := fun hz => hz.moved al
  have mt : ∀ {ty : FieldType} {t N : Nat} {f : Nat → Value}, va_T ty t N f A U U.heap → va_T ty t N f A (U.calling g mk a) (U.calling g mk a).heap := fun hz => hz.moved al
  exact ⟨⟨n1.same rfl rfl, n2.same rfl rfl⟩, ⟨mz z1, mz z2, mz z3⟩, ⟨mt t1, mt t2, mt t3⟩, ⟨mz c1, c2.moved al⟩, fun i hi => (r i hi).same rfl, k.moved al⟩
/-- the heap holds the cells ws, they are apart, and since H0 nothing but A has changed -/
def zHw (x : zX) (A : Nat → Prop) (H0 : Heap) (ws : va_W) (H : Heap) (locs : List Loc) : Prop := va_P (zD x) vwCl ws H ∧ va_D A ws ∧ va_S A H0 H locs
/-- a contract's start -/
def zKP (x : zX) (w : va_W) (sz : Nat) (U : State) : Prop := U.heap.size = sz ∧ va_P (zD x) vwCl w U.heap ∧ va_K (zD x) vwCl (zTy x) U ∧ va_D (fun _ => True) w ∧ zE x (va_A w sz) U
/-- a contract's end -/
def zQF (x : zX) (Post : Option Value → va_W → Prop) (w : va_W) (A : Nat → Prop) : Array Value → State → Outcome → State → Prop := fun _ st oc t => (∃ (v : Option Value) (u : va_W), oc = .returned v ∧ Post v u ∧ u.map Prod.fst = w.map Prod.fst ∧ va_P (zD x) vwCl u t.heap) ∧ va_F A st t
/-- the contract: from the cells w, with the arguments as, the method me (of height k) returns v and leaves the cells u, Post v u -/
def zFG (x : zX) (me : zMe) (k : Nat) (as : List Value) (w : va_W) (Post : Option Value → va_W → Prop) : Prop := ∀ sz : Nat, Met x.1 me.1 (zws me) (zRM k) (va_Pc as (zKP x w sz)) (zQF x Post w (va_A w sz)) 0 0 (va_A w sz)
/-- the contract of a method that is a function of its arguments and cells -/
abbrev zFF (x : zX) (me : zMe) (k : Nat) (as : List Value) (w : va_W) (v : Option Value) (u : va_W) : Prop := zFG x me k as w (fun v' u' => v' = v ∧ u' = u)
def zQM (below : List Frame) (x : zX) (Post : Option Value → va_W → Prop) (w : va_W) (A : Nat → Prop) (args : Array Value) (s : State) : State → Prop := MQ below (zQF x Post w A) args s 0 0 A
theorem zHw.P {x : zX} {A : Nat → Prop} {H0 H : Heap} {ws : va_W} {locs : List Loc} (h : zHw x A H0 ws H locs) : va_P (zD x) vwCl ws H := h.1
theorem zHw.D {x : zX} {A : Nat → Prop} {H0 H : Heap} {ws : va_W} {locs : List Loc} (h : zHw x A H0 ws H locs) : va_D A ws := h.2.1
theorem zHw.S {x : zX} {A : Nat → Prop} {H0 H : Heap} {ws : va_W} {locs : List Loc} (h : zHw x A H0 ws H locs) : va_S A H0 H locs := h.2.2
/-- va_D looks at the addresses alone -/
theorem va_D.addr {A : Nat → Prop} {w u : va_W} (h : va_D A w) (e : u.map Prod.fst = w.map Prod.fst) : va_D A u := by
  have at' : ∀ (k : Nat) (q : Nat × va_E), u[k]? = some q → ∃ q' : Nat × va_E, w[k]? = some q' ∧ q'.1 = q.1 := by
    intro k q hq
    have h1 : (u.map Prod.fst)[k]? = some q.1 := by rw [List.getElem?_map, hq]; rfl
    rw [e, List.getElem?_map] at h1
    cases hw : w[k]? with
    | none => rw [hw] at h1; cases h1
    | some q' => rw [hw] at h1; exact ⟨q', rfl, Option.some.inj h1⟩
  refine ⟨fun i j p q hp hq hpq => ?_, fun k q hq => ?_⟩
  · obtain ⟨p', h1, e1⟩ := at' i p hp
    obtain ⟨q', h2, e2⟩ := at' j q hq
    exact h.1 i j p' q' h1 h2 (by rw [e1, e2]; exact hpq)
  · obtain ⟨q', h1, e1⟩ := at' k q hq
    rw [← e1]; exact h.2 k q' h1
theorem va_P.left {D : va_G} {cl : List vw_C} {a b : va_W} {H : Heap} (h : va_P D cl (a ++ b) H) : va_P D cl a H := fun k q hq => h k q (by rw [List.getElem?_append_left (List.getElem?_eq_some_iff.mp hq).1]; exact hq)
theorem va_P.right {D : va_G} {cl : List vw_C} {a b : va_W} {H : Heap} (h : va_P D cl (a ++ b) H) : va_P D cl b H := fun k q hq => h (a.length + k) q (by rw [List.getElem?_append_right (Nat.le_add_right _ _), Nat.add_sub_cancel_left]; exact hq)
theorem va_D.left {A : Nat → Prop} {a b : va_W} (h : va_D A (a ++ b)) : va_D A a := by
  have up : ∀ (k : Nat) (q : Nat × va_E), a[k]? = some q → (a ++ b)[k]? = some q := fun k q hq => by rw [List.getElem?_append_left (List.getElem?_eq_some_iff.mp hq).1]; exact hq
  exact ⟨fun i j p q hp hq e => h.1 i j p q (up i p hp) (up j q hq) e, fun k q hq => h.2 k q (up k q hq)⟩
theorem va_D.right {A : Nat → Prop} {a b : va_W} (h : va_D A (a ++ b)) : va_D A b := by
  have up : ∀ (k : Nat) (q : Nat × va_E), b[k]? = some q → (a ++ b)[a.length + k]? = some q := fun k q hq => by rw [List.getElem?_append_right (Nat.le_add_right _ _), Nat.add_sub_cancel_left]; exact hq
  exact ⟨fun i j p q hp hq e => by have := h.1 _ _ p q (up i p hp) (up j q hq) e; omega, fun k q hq => h.2 _ q (up k q hq)⟩
theorem va_D.cross {A : Nat → Prop} {a b : va_W} (h : va_D A (a ++ b)) {i j : Nat} {p q : Nat × va_E} (hp : a[i]? = some p) (hq : b[j]? = some q) : p.1 ≠ q.1 := by
  intro e
  have hi := (List.getElem?_eq_some_iff.mp hp).1
  have := h.1 i (a.length + j) p q (by rw [List.getElem?_append_left hi]; exact hp) (by rw [List.getElem?_append_right (Nat.le_add_right _ _), Nat.add_sub_cancel_left]; exact hq) e
  omega
/-- a call over the cells w in the middle of others -/
theorem zHw.mid {x : zX} {A : Nat → Prop} {H0 H H1 : Heap} {C1 C2 w u : va_W} {locs locs1 : List Loc} (h : zHw x A H0 (C1 ++ (w ++ C2)) H locs) (hu : u.map Prod.fst = w.map Prod.fst) (hP1 : va_P (zD x) vwCl u H1) (hk : ∀ q : Nat, q < H.size → ¬ va_A w H.size q → H1[q]? = H[q]?) (hS1 : va_S A H0 H1 locs1) : zHw x A H0 (C1 ++ (u ++ C2)) H1 locs1 := by
  obtain ⟨hP, hD, hS⟩ := h
  have nA : ∀ q : Nat × va_E, (∀ (j : Nat) (e : va_E), w[j]? = some (q.1, e) → False) → q.1 < H.size → H1[q.1]? = H[q.1]? := fun q hq hl => hk q.1 hl (fun z => by
    rcases z with ⟨j, e, z⟩ | z
    · exact hq j e z
    · omega)
  refine ⟨va_P.app (hP.left.kept fun k q hq => nA q (fun j e hj => ?_) (hP.left k q hq).lt) (va_P.app hP1 (hP.right.right.kept fun k q hq => nA q (fun j e hj => ?_) (hP.right.right k q hq).lt)), hD.addr ?_, hS1⟩
  · exact hD.cross hq (show (w ++ C2)[j]? = some (q.1, e) by rw [List.getElem?_append_left (List.getElem?_eq_some_iff.mp hj).1]; exact hj) rfl
  · exact hD.right.cross hj hq rfl
  · rw [List.map_append, List.map_append, List.map_append, List.map_append, hu]
theorem zHw.whole {x : zX} {A : Nat → Prop} {H0 H H1 : Heap} {w u : va_W} {locs locs1 : List Loc} (h : zHw x A H0 w H locs) (hu : u.map Prod.fst = w.map Prod.fst) (hP1 : va_P (zD x) vwCl u H1) (hS1 : va_S A H0 H1 locs1) : zHw x A H0 u H1 locs1 := ⟨hP1, h.D.addr hu, hS1⟩
/-- cells under other contents, the same to the heap -/
theorem zHw.re {x : zX} {A : Nat → Prop} {H0 H : Heap} {w u : va_W} {locs : List Loc} (h : zHw x A H0 w H locs) (e : w = u) : zHw x A H0 u H locs := e ▸ h
section LAY
variable {p : Program} {e : Env} {R : Room} {s : State} {m : MethodId} {args : Array Value} {below : List Frame} {meth : Method} {c : Code} {H H0 : Heap} {locs : List Loc} {cells slots : Nat} {Q : State → Prop} {x : zX} {A : Nat → Prop} {ls : Array Slot} {pc : Nat} {cc : ByteArray} {rest : List Value}
/-- a method's contract out of the walk of its body -/
theorem zFG.start {me : zMe} {k : Nat} {as : List Value} {w : va_W} {Post : Option Value → va_W → Prop} (own : String) (cc : ByteArray) (nL : Nat) (ret : Option FieldType) (hm : me.2 = (cc, nL, ret)) (hown : me.1.cls = own) (hy : plainName me.1.cls = true) (hn : (lg_sl as).length ≤ nL)
    (body : ∀ (p : Program) (e : Env) (s : State) (m : MethodId) (ar : Array Value) (below : List Frame) (meth : Method) (c : Code) (ls : Array Slot) (A : Nat → Prop) (Q : State → Prop), p.tables.exec = Jvm.exec → c.code = cc → meth.sig.returnType = ret → c.maxLocals = nL → s.vm.findClass own = some m.cls → (∀ w ∈ zGW, w.before ar s = true) → meth.locks = false → va_K (zD x) vwCl (zTy x) s → zE x A s → (∀ q, s.heap.size ≤ q → A q) → Q = zQM below x Post w A ar s → lv_has ls nL (lv_args 0 as) → zHw x A s.heap w s.heap [] → W p x.1 e (zRM k) s m ar below meth c s.heap [] 0 0 Q (F0 m 0 ls [])) : zFG x me k as w Post := by
  obtain ⟨y, cc', nL', ret'⟩ := me
  cases hm
  subst hown
  intro sz
  refine Met.ofW (cc := cc) (maxL := nL) (ret := ret) (ws := zws (y, cc, nL, ret)) hy rfl ?_
  intro p e s m args below meth c s₁ B hml hv
  obtain ⟨rfl, hsz, hP, hK, hD0, hE⟩ := hv
  subst hsz
  have hl := lv_entry as (n := nL) hn
  rw [lg_entry_eq]
  have hts := atoms_spec (ws := zws (y, cc, nL, ret)) B.pre
  exact body p e s m _ below meth c _ (va_A w s.heap.size) _ B.exec B.bytes B.returns hml (findClass_of_methodNamed B.named) (fun w hw => hts w (List.mem_cons_of_mem _ hw)) B.notSynchronized hK hE (fun q h => Or.inr h) rfl hl ⟨hP, hD0.self, va_S.rf⟩
/-- the ends -/
theorem zQF.mk {Post : Option Value → va_W → Prop} {w u : va_W} {v : Option Value} (hw : zHw x A s.heap u H locs) (hp : Post v u) (hu : u.map Prod.fst = w.map Prod.fst) {t : State} (ht : t.heap = H) : zQF x Post w A args s (.returned v) t := ⟨⟨v, u, rfl, hp, hu, by rw [ht]; exact hw.P⟩, hw.S.F ht⟩
theorem zFG.iret {Post : Option Value → va_W → Prop} {w u : va_W} {v : Int32} (hx : p.tables.exec = Jvm.exec) (hb : c.code = cc) (hr : meth.sig.returnType = some .int) (hlocks : meth.locks = false) (hQ : Q = zQM below x Post w A args s) (hw : zHw x A s.heap u H locs) (hu : u.map Prod.fst = w.map Prod.fst) (hdg : decode cc pc = .ok (.ireturn, 1)) (hp : Post (some (.int v)) u) : W p x.1 e R s m args below meth c H locs 0 0 Q (F0 m pc ls [.int v]) := by
  subst hQ; exact W.iret hx hb hr (fun _ ht _ => zQF.mk hw hp hu ht) hw.S.2.2 hdg hlocks
theorem zFG.zret {Post : Option Value → va_W → Prop} {w u : va_W} {v : Int32} (hx : p.tables.exec = Jvm.exec) (hb : c.code = cc) (hr : meth.sig.returnType = some .boolean) (hlocks : meth.locks = false) (hQ : Q = zQM below x Post w A args s) (hw : zHw x A s.heap u H locs) (hu : u.map Prod.fst = w.map Prod.fst) (hdg : decode cc pc = .ok (.ireturn, 1)) (hn : narrow .boolean (.int v) = .int v) (hp : Post (some (.int v)) u) : W p x.1 e R s m args below meth c H locs 0 0 Q (F0 m pc ls [.int v]) := by
  subst hQ; exact W.zret hx hb hr hn (fun _ ht _ => zQF.mk hw hp hu ht) hw.S.2.2 hdg hlocks
theorem zFG.lret {Post : Option Value → va_W → Prop} {w u : va_W} {v : Int64} (hx : p.tables.exec = Jvm.exec) (hb : c.code = cc) (hr : meth.sig.returnType = some .long) (hlocks : meth.locks = false) (hQ : Q = zQM below x Post w A args s) (hw : zHw x A s.heap u H locs) (hu : u.map Prod.fst = w.map Prod.fst) (hdg : decode cc pc = .ok (.lreturn, 1)) (hp : Post (some (.long v)) u) : W p x.1 e R s m args below meth c H locs 0 0 Q (F0 m pc ls [.long v]) := by
  subst hQ; exact W.lret hx hb hr (fun _ ht _ => zQF.mk hw hp hu ht) hw.S.2.2 hdg hlocks
theorem zFG.vret {Post : Option Value → va_W → Prop} {w u : va_W} (hx : p.tables.exec = Jvm.exec) (hb : c.code = cc) (hr : meth.sig.returnType = none) (hlocks : meth.locks = false) (hQ : Q = zQM below x Post w A args s) (hw : zHw x A s.heap u H locs) (hu : u.map Prod.fst = w.map Prod.fst) (hdg : decode cc pc = .ok (.return_, 1)) (hp : Post none u) : W p x.1 e R s m args below meth c H locs 0 0 Q (F0 m pc ls []) := by
  subst hQ; exact W.vret hx hb hr (fun _ ht _ => zQF.mk hw hp hu ht) hw.S.2.2 hdg hlocks
theorem zFG.aret {Post : Option Value → va_W → Prop} {w u : va_W} {v : Value} {rt : FieldType} (hx : p.tables.exec = Jvm.exec) (hb : c.code = cc) (hr : meth.sig.returnType = some rt) (hrt : (∃ n, rt = .object n) ∨ ∃ t, rt = .array t) (hv : v = .null ∨ ∃ a, v = .ref a) (hlocks : meth.locks = false) (hQ : Q = zQM below x Post w A args s) (hw : zHw x A s.heap u H locs) (hu : u.map Prod.fst = w.map Prod.fst) (hdg : decode cc pc = .ok (.areturn, 1)) (hp : Post (some v) u) : W p x.1 e R s m args below meth c H locs 0 0 Q (F0 m pc ls [v]) := by
  subst hQ; exact W.aret hx hb hr hrt hv (fun _ ht _ => zQF.mk hw hp hu ht) hw.S.2.2 hdg hlocks
/-- a call has run: what its contract says -/
theorem zFG.ran {Post : Option Value → va_W → Prop} {w : va_W} {av : Array Value} {st0 : List Value} (hr : va_Run p x.1 e R s m args below meth c H locs cells slots 0 0 (F0 m pc ls st0) rest (zQF x Post w (va_A w H.size) av) (va_A w H.size)) (hS : va_S A H0 H locs) (hF : ∀ q, va_A w H.size q → A q)
    (kk : ∀ (v : Option Value) (u : va_W) (H1 : Heap) (locs1 : List Loc), Post v u → u.map Prod.fst = w.map Prod.fst → va_P (zD x) vwCl u H1 → (∀ q : Nat, q < H.size → ¬ va_A w H.size q → H1[q]? = H[q]?) → va_S A H0 H1 locs1 → W p x.1 e R s m args below meth c H1 locs1 cells slots Q (F0 m (pc + 3) ls (v.toList ++ rest))) : W p x.1 e R s m args below meth c H locs cells slots Q (F0 m pc ls st0) := by
  intro T hT X
  obtain ⟨v, st₀, t, T', L, h0, X', hL, e1, e2, ⟨⟨v', u, hv, hp, hu, hb⟩, hz, hk⟩, st⟩ := hr T hT X
  cases hv
  rw [h0] at hz hk
  obtain ⟨t2, a1, b1⟩ := kk v u T'.heap (locs ++ L) hp hu (by rw [e1]; exact hb) (fun q h1 h2 => by rw [e1]; exact hk q h1 h2)
    ⟨Nat.le_trans hS.1 (by rw [e1]; exact hz), fun q h1 h2 => by rw [e1, hk q (Nat.lt_of_lt_of_le h1 hS.1) (fun z => h2 (hF q z))]; exact hS.2.1 q h1 h2, fun q hq => by
      rcases List.mem_append.mp hq with h | h
      · exact hS.2.2 q h
      · exact hF _ (hL q h)⟩ T' rfl X'
  exact ⟨t2, st t2 a1, b1⟩
theorem zKP.blind {as : List Value} {w : va_W} {sz : Nat} : FrameBlind (va_Pc as (zKP x w sz)) := fun a U g mk q => by
  obtain ⟨q0, q1, qP, qK, qD, qE⟩ := q
  exact ⟨q0, q1, qP, va_K.moved (u := U) (U := U.calling g mk a) (Vm.Alike.refl U.vm) qK, qD, qE.blind⟩
theorem zKP.at {as : List Value} {w : va_W} (hK : va_K (zD x) vwCl (zTy x) s) (hP : va_P (zD x) vwCl w H) (hD : va_D A w) (hE : zE x A s) (hS : va_S A s.heap H locs) (hF : ∀ q, va_A w H.size q → A q) (U : State) (hU : U.heap = H) (hW : s.WarmedH U.vm) : va_Pc as (zKP x w H.size) as.toArray U := ⟨rfl, by rw [hU], by rw [hU]; exact hP, va_K.moved hW.alike hK, hD.weaken (fun _ _ _ _ => trivial), hE.at hS hU hW hF⟩
theorem zLK.callB {me : zMe} {n k : Nat} {own : String} {i : Nat} (hk : zLK me n (.methodLink own i me.1)) (hts : ∀ w ∈ zGW, w.before args s = true) (hR : k + 1 ≤ R.frames ∧ 19 + me.2.2.1 + 40 * k ≤ R.locals) : CallB R s args own i me.1 me.2.1 me.2.2.1 me.2.2.2 (zws me) (zRM k) 0 0 n :=
  callB_of n hts (zgood hk.1) rfl rfl rfl (hts _ hk.2.1) (hts _ hk.2.2.2.2) ⟨hk.2.2.1.1, hk.2.2.1.2, hk.2.2.2.1⟩ ⟨hR.1, by have := hR.2; show 8 + (me.2.2.1 + 11) + 40 * k ≤ R.locals; omega⟩
theorem zLK.callN {me : zMe} {n k : Nat} {own host : String} {i : Nat} (hk : zLK me n (.code me.1 me.2.1 me.2.2.1 me.2.2.2)) (hn : va_Nw (.methodLinkNest own i me.1 host) s) (hts : ∀ w ∈ zGW, w.before args s = true) (hR : k + 1 ≤ R.frames ∧ 19 + me.2.2.1 + 40 * k ≤ R.locals) : va_CN R s args own i me.1 host me.2.1 me.2.2.1 me.2.2.2 (zws me) (zRM k) 0 0 n :=
  va_cnB n hts (zgood hk.1) rfl rfl rfl hn (hts _ hk.2.1) ⟨hk.2.2.1.1, hk.2.2.1.2, hk.2.2.2.1⟩ ⟨hR.1, by have := hR.2; show 8 + (me.2.2.1 + 11) + 40 * k ≤ R.locals; omega⟩
end LAY
