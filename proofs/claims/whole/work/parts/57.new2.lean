/-! CONSTRUCTORS: the end; Object's -/
section ROWS6
variable {p : Program} {e : Env} {R : Room} {s : State} {m : MethodId} {args : Array Value} {below : List Frame} {meth : Method} {c : Code} {H H0 : Heap} {locs : List Loc} {cells slots : Nat} {Q : State → Prop} {x : zX} {A : Nat → Prop} {ls : Array Slot} {pc : Nat} {cc : ByteArray} {rest : List Value} {ws : va_W} {a : Nat}
theorem zFN.vret {Post : va_W → Prop} {u : va_W} {mc ms : Nat} (hx : p.tables.exec = Jvm.exec) (hb : c.code = cc) (hr : meth.sig.returnType = none) (hlocks : meth.locks = false) (hQ : Q = zQO below x Post A mc ms args s) (hw : zHw x A s.heap u H locs) (hdg : decode cc pc = .ok (.return_, 1)) (hp : Post u) : W p x.1 e R s m args below meth c H locs mc ms Q (F0 m pc ls []) := by
  subst hQ; exact W.vret hx hb hr (fun _ ht _ => ⟨⟨u, rfl, hp, by rw [ht]; exact hw.P, hw.D⟩, hw.S.F ht⟩) hw.S.2.2 hdg hlocks
end ROWS6
