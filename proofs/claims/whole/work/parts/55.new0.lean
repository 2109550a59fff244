/-! CONSTRUCTORS: a contract with new cells -/
def zRN (k mc ms : Nat) : Room := { frames := k, cells := mc, slots := ms, locals := 40 * k }
/-- a constructor's end: the cells u, its own among them, apart; nothing but A and what is new has changed -/
def zQN (x : zX) (Post : va_W → Prop) (A : Nat → Prop) : Array Value → State → Outcome → State → Prop := fun _ st oc t => (∃ u : va_W, oc = .returned none ∧ Post u ∧ va_P (zD x) vwCl u t.heap ∧ va_D A u) ∧ va_F A st t
def zFN (x : zX) (me : zMe) (k mc ms : Nat) (as : List Value) (w : va_W) (Post : va_W → Prop) : Prop := ∀ sz : Nat, Met x.1 me.1 (zws me) (zRN k mc ms) (va_Pc as (zKP x w sz)) (zQN x Post (va_A w sz)) mc ms (va_A w sz)
def zQO (below : List Frame) (x : zX) (Post : va_W → Prop) (A : Nat → Prop) (mc ms : Nat) (args : Array Value) (s : State) : State → Prop := MQ below (zQN x Post A) args s mc ms A
theorem zFN.start {x : zX} {me : zMe} {k mc ms : Nat} {as : List Value} {w : va_W} {Post : va_W → Prop} (own : String) (cc : ByteArray) (nL : Nat) (hm : me.2 = (cc, nL, none)) (hown : me.1.cls = own) (hin : me.1.name = "<init>") (hy : plainName me.1.cls = true) (hn : (lg_sl as).length ≤ nL)
    (body : ∀ (p : Program) (e : Env) (s : State) (m : MethodId) (ar : Array Value) (below : List Frame) (meth : Method) (c : Code) (ls : Array Slot) (A : Nat → Prop) (Q : State → Prop), p.tables.exec = Jvm.exec → c.code = cc → meth.sig.returnType = none → c.maxLocals = nL → s.vm.findClass own = some m.cls → (∀ w ∈ zGW, w.before ar s = true) → meth.locks = false → meth.name = "<init>" → va_K (zD x) vwCl (zTy x) s → zE x A s → (∀ q, s.heap.size ≤ q → A q) → Q = zQO below x Post A mc ms ar s → lv_has ls nL (lv_args 0 as) → zHw x A s.heap w s.heap [] → W p x.1 e (zRN k mc ms) s m ar below meth c s.heap [] 0 0 Q (F0 m 0 ls [])) : zFN x me k mc ms as w Post := by
  obtain ⟨y, cc', nL', ret'⟩ := me
  cases hm
  subst hown
  intro sz
  refine Met.ofW (cc := cc) (maxL := nL) (ret := none) (ws := zws (y, cc, nL, none)) hy rfl ?_
  intro p e s m args below meth c s₁ B hml hv
  obtain ⟨rfl, hsz, hP, hK, hD0, hE⟩ := hv
  subst hsz
  have hl := lv_entry as (n := nL) hn
  rw [lg_entry_eq]
  have hts := atoms_spec (ws := zws (y, cc, nL, none)) B.pre
  exact body p e s m _ below meth c _ (va_A w s.heap.size) _ B.exec B.bytes B.returns hml (findClass_of_methodNamed B.named) (fun w hw => hts w (List.mem_cons_of_mem _ hw)) B.notSynchronized ((name_of_methodNamed B.named B.method).1.trans hin) hK hE (fun q h => Or.inr h) rfl hl ⟨hP, hD0.self, va_S.rf⟩
