/-! THE LAW: the world of its loop, rows -/
/-- class and reference side by side: the same town, the same findings, tape, sheets, image -/
def zLaw (x : zX) (b : Nat → Nat) (t : Nat → Nat → Nat) (a : Nat → Nat) (u : va_W) : Prop := ∃ (S : zT) (l0 : Int32) (T : zT) (l1 : Int32) (K : zT) (l2 : Int32) (tq : Nat → Int32) (nn : zNN) (q : Nat → Int32) (g : zT) (mv : Nat → Int64) (n : Nat), u = zHW x b t S l0 T l1 K l2 (q 0) (g 5) (g 6) tq (g 7) (g 8) nn ++ zMW x a q g (zNM nn mv) (zflat S) ∧ zInv S ∧ zSI (g 7) (g 8) ∧ (¬ q 0 = 0 → g 2 = zflat K ∧ zInv K) ∧ tq 0 = nI n ∧ q 1 = nI n ∧ n ≤ 120
section ZLAW
variable {x : zX} {b : Nat → Nat} {t : Nat → Nat → Nat} {a : Nat → Nat} {S T K : zT} {l0 l1 l2 : Int32} {tq : Nat → Int32} {nn : zNN} {q : Nat → Int32} {g : zT} {mv : Nat → Int64} {n : Nat}
theorem zLaw.std {r : zR} {F : Nat → Int32} (hI : zInv r.2.1) (hS : zSI (g 7) (g 8)) (hk : ¬ q 0 = 0 → g 2 = zflat K ∧ zInv K) (h1 : tq 0 = nI n) (h2 : q 1 = nI n) (h3 : n ≤ 120) : zLaw x b t a (zHW x b t r.2.1 l0 T l1 K l2 (q 0) r.2.2 (g 6) tq (g 7) (g 8) nn ++ zMW x a q (zV (zV g 4 F) 5 r.2.2) (zNM nn mv) (zflat r.2.1)) := ⟨r.2.1, l0, T, l1, K, l2, tq, nn, q, zV (zV g 4 F) 5 r.2.2, mv, n, rfl, hI, hS, hk, h1, h2, h3⟩
theorem zLaw.sh {F fd bo so : Nat → Int32} (hI : zInv S) (hS : zSI bo so) (hk : ¬ q 0 = 0 → g 2 = zflat K ∧ zInv K) (h1 : tq 0 = nI n) (h2 : q 1 = nI n) (h3 : n ≤ 120) : zLaw x b t a (zHW x b t S l0 T l1 K l2 (q 0) fd (g 6) tq bo so nn ++ zMW x a q (zKg g F fd bo so) (zNM nn mv) (zflat S)) := ⟨S, l0, T, l1, K, l2, tq, nn, q, zKg g F fd bo so, mv, n, rfl, hI, hS, hk, h1, h2, h3⟩
theorem zLaw.fd {fd : Nat → Int32} (hI : zInv S) (hS : zSI (g 7) (g 8)) (hk : ¬ q 0 = 0 → g 2 = zflat K ∧ zInv K) (h1 : tq 0 = nI n) (h2 : q 1 = nI n) (h3 : n ≤ 120) : zLaw x b t a (zHW x b t S l0 T l1 K l2 (q 0) fd (g 6) tq (g 7) (g 8) nn ++ zMW x a q (zV g 5 fd) (zNM nn mv) (zflat S)) := ⟨S, l0, T, l1, K, l2, tq, nn, q, zV g 5 fd, mv, n, rfl, hI, hS, hk, h1, h2, h3⟩
theorem zLaw.feed {fd tb q2 : Nat → Int32} (hI : zInv S) (hS : zSI (g 7) (g 8)) (hk : ¬ q 0 = 0 → g 2 = zflat K ∧ zInv K) (h0 : q2 0 = q 0) (h1 : tq 0 = nI n) (h2 : q2 1 = nI n) (h3 : n ≤ 120) : zLaw x b t a (zHW x b t S l0 T l1 K l2 (q 0) fd tb tq (g 7) (g 8) nn ++ zMW x a q2 (zV (zV g 6 tb) 5 fd) (zNM nn mv) (zflat S)) := by
  rw [← h0] at hk ⊢
  exact ⟨S, l0, T, l1, K, l2, tq, nn, q2, zV (zV g 6 tb) 5 fd, mv, n, rfl, hI, hS, hk, h1, h2, h3⟩
theorem zLaw.text {f3 q2 : Nat → Int32} (hI : zInv S) (hS : zSI (g 7) (g 8)) (hk : ¬ q 0 = 0 → g 2 = zflat K ∧ zInv K) (h0 : q2 0 = q 0) (h1 : tq 0 = 0) (h2 : q2 1 = 0) : zLaw x b t a (zHW x b t S l0 T l1 K l2 (q 0) (g 5) (g 6) tq (g 7) (g 8) nn ++ zMW x a q2 (zV g 3 f3) (zNM nn mv) (zflat S)) := by
  rw [← h0] at hk ⊢
  exact ⟨S, l0, T, l1, K, l2, tq, nn, q2, zV g 3 f3, mv, 0, rfl, hI, hS, hk, h1, h2, by decide⟩
theorem zLaw.wipe (hI : zInv S) (hS : zSI (g 7) (g 8)) (hk : ¬ q 0 = 0 → g 2 = zflat K ∧ zInv K) : zLaw x b t a (zHW x b t S l0 T l1 K l2 (q 0) (g 5) (g 6) (upd tq 0 0) (g 7) (g 8) nn ++ zMW x a (upd q 1 0) g (zNM nn mv) (zflat S)) := ⟨S, l0, T, l1, K, l2, upd tq 0 0, nn, upd q 1 0, g, mv, 0, rfl, hI, hS, hk, rfl, rfl, by decide⟩
theorem zLaw.image (hI : zInv S) (hS : zSI (g 7) (g 8)) (h1 : tq 0 = nI n) (h2 : q 1 = nI n) (h3 : n ≤ 120) : zLaw x b t a (zHW x b t S l0 T l1 S l2 1 (g 5) (g 6) tq (g 7) (g 8) nn ++ zMW x a (upd q 0 1) (zV g 2 (zflat S)) (zNM nn mv) (zflat S)) := ⟨S, l0, T, l1, S, l2, tq, nn, upd q 0 1, zV g 2 (zflat S), mv, n, rfl, hI, hS, fun _ => ⟨rfl, hI⟩, h1, h2, h3⟩
theorem zLaw.undo1 (hK : zInv K) (hg : g 2 = zflat K) (hS : zSI (g 7) (g 8)) (h1 : tq 0 = nI n) (h2 : q 1 = nI n) (h3 : n ≤ 120) : zLaw x b t a (zHW x b t K l0 T l1 K l2 (q 0) (g 5) (g 6) tq (g 7) (g 8) nn ++ zMW x a q g (zNM nn mv) (g 2)) := ⟨K, l0, T, l1, K, l2, tq, nn, q, g, mv, n, by rw [hg], hK, hS, fun _ => ⟨hg, hK⟩, h1, h2, h3⟩
theorem zLaw.undo0 (hI : zInv S) (hk : ¬ q 0 = 0 → g 2 = zflat K ∧ zInv K) (hS : zSI (g 7) (g 8)) (h1 : tq 0 = nI n) (h2 : q 1 = nI n) (h3 : n ≤ 120) : zLaw x b t a (zHW x b t S l0 T l1 K l2 (q 0) (zFd (g 5) 3) (g 6) tq (g 7) (g 8) nn ++ zMW x a q (zU g 5 3 (g 5 3 + 1)) (zNM nn mv) (zflat S)) := ⟨S, l0, T, l1, K, l2, tq, nn, q, zU g 5 3 (g 5 3 + 1), mv, n, rfl, hI, hS, hk, h1, h2, h3⟩
theorem zLaw.tear (hI : zInv S) (hS : zSI (g 7) (g 8)) (h1 : tq 0 = nI n) (h2 : q 1 = nI n) (h3 : n ≤ 120) : zLaw x b t a (zHW x b t S l0 T l1 K l2 0 (g 5) (g 6) tq (g 7) (g 8) nn ++ zMW x a (upd q 0 0) g (zNM nn mv) (zflat S)) := ⟨S, l0, T, l1, K, l2, tq, nn, upd q 0 0, g, mv, n, rfl, hI, hS, fun h => absurd rfl h, h1, h2, h3⟩
end ZLAW
theorem zm_feed_n {tb fd : Nat → Int32} {n : Nat} {y mm : Int32} (hn : n ≤ 120) : (zm_feed tb n fd y mm).2.2.1 ≤ 120 := by
  unfold zm_feed
  by_cases h : zBw mm 1 4
  · rw [if_pos h]
    by_cases h2 : (120 : Int32) < nI n + mm
    · rw [if_pos h2]; exact hn
    · rw [if_neg h2]
      show n + zc mm ≤ 120
      obtain ⟨j, hj, rfl⟩ := zBw_nat (hi := 4) ⟨Int32.le_trans (show (0 : Int32) ≤ 1 by decide) h.1, h.2⟩ (by decide) (by decide)
      rw [nI_add] at h2
      have e : zc (nI j) = j := nI_clamp (by omega)
      rw [e]
      exact Nat.le_of_not_lt (fun h3 => h2 (nI_lt (a := 120) h3 (by omega)))
  · rw [if_neg h]; exact hn
/-- what the law stands in -/
def zCx (x : zX) (p : Program) (s : State) (m : MethodId) (args : Array Value) (c : Code) (A : Nat → Prop) (sc L : Nat) (xs : Nat → Int32) (cells slots : Nat) : Prop := p.tables.exec = Jvm.exec ∧ c.code = cL_law ∧ c.maxLocals = 4 ∧ s.vm.findClass RL = some m.cls ∧ (∀ w ∈ zGW, w.before args s = true) ∧ va_K (zD x) vwCl (zTy x) s ∧ zE x A s ∧ (∀ q, s.heap.size ≤ q → A q) ∧ (va_X sc L xs s s.heap ∧ sc < s.heap.size ∧ ¬ A sc ∧ L ≤ 3072) ∧ cells ≤ room_1.cells ∧ slots ≤ room_1.slots
section ROWS8
variable {p : Program} {e : Env} {R : Room} {s : State} {m : MethodId} {args : Array Value} {below : List Frame} {meth : Method} {c : Code} {H : Heap} {locs : List Loc} {cells slots : Nat} {Q : State → Prop} {x : zX} {A : Nat → Prop} {ls : Array Slot} {pc : Nat} {cc : ByteArray} {rest : List Value}
theorem zcVL {me : zMe} {n k i nL : Nat} {own : String} {As st0 : List Value} {b : Nat} {w C2 : va_W} {Post : Option Value → va_W → Prop} (hx : p.tables.exec = Jvm.exec) (hb : c.code = cc) (hml : c.maxLocals = nL) (hown : s.vm.findClass own = some m.cls) (hts : ∀ w ∈ zGW, w.before args s = true) (hl : ls.size = nL) (hK : va_K (zD x) vwCl (zTy x) s) (hE : zE x A s) (hA : ∀ q, s.heap.size ≤ q → A q) (lk : zLV own i me n) (F : zFG x me k (.ref b :: As) w Post) (hR : k + 1 ≤ R.frames ∧ 19 + me.2.2.1 + 40 * k ≤ R.locals) (hf : cells ≤ R.cells ∧ slots ≤ R.slots) (hw : zHw x A s.heap (w ++ C2) H locs) (q0 ci : Nat) {fs : List Value} {T : u_T} {N : Nat} (he : w[q0]? = some (b, .inr (ci, fs))) (hc : vwCl[ci]? = some (me.1.cls, T, N)) (hn : As.length = n) (hst : st0 = As.reverse ++ .ref b :: rest) (hcat : (rest.map fun v => v.category).sum ≤ 8) (hdg : decode cc pc = .ok (.invokevirtual i, 3))
    (kk : ∀ (v : Option Value) (u : va_W) (H1 : Heap) (locs1 : List Loc), Post v u → zHw x A s.heap (u ++ C2) H1 locs1 → W p x.1 e R s m args below meth c H1 locs1 cells slots Q (F0 m (pc + 3) ls (v.toList ++ rest))) : W p x.1 e R s m args below meth c H locs cells slots Q (F0 m pc ls st0) :=
  zcVm (C1 := []) hx hb hml hown hts hl hK hE hA lk F hR hf hw q0 ci he hc hn hst hcat hdg kk
theorem zcVR {me : zMe} {n k i nL : Nat} {own : String} {As st0 : List Value} {b : Nat} {w C1 : va_W} {Post : Option Value → va_W → Prop} (hx : p.tables.exec = Jvm.exec) (hb : c.code = cc) (hml : c.maxLocals = nL) (hown : s.vm.findClass own = some m.cls) (hts : ∀ w ∈ zGW, w.before args s = true) (hl : ls.size = nL) (hK : va_K (zD x) vwCl (zTy x) s) (hE : zE x A s) (hA : ∀ q, s.heap.size ≤ q → A q) (lk : zLV own i me n) (F : zFG x me k (.ref b :: As) w Post) (hR : k + 1 ≤ R.frames ∧ 19 + me.2.2.1 + 40 * k ≤ R.locals) (hf : cells ≤ R.cells ∧ slots ≤ R.slots) (hw : zHw x A s.heap (C1 ++ w) H locs) (q0 ci : Nat) {fs : List Value} {T : u_T} {N : Nat} (he : w[q0]? = some (b, .inr (ci, fs))) (hc : vwCl[ci]? = some (me.1.cls, T, N)) (hn : As.length = n) (hst : st0 = As.reverse ++ .ref b :: rest) (hcat : (rest.map fun v => v.category).sum ≤ 8) (hdg : decode cc pc = .ok (.invokevirtual i, 3))
    (kk : ∀ (v : Option Value) (u : va_W) (H1 : Heap) (locs1 : List Loc), Post v u → zHw x A s.heap (C1 ++ u) H1 locs1 → W p x.1 e R s m args below meth c H1 locs1 cells slots Q (F0 m (pc + 3) ls (v.toList ++ rest))) : W p x.1 e R s m args below meth c H locs cells slots Q (F0 m pc ls st0) :=
  zcVm (C2 := []) hx hb hml hown hts hl hK hE hA lk F hR hf (by rw [List.append_nil]; exact hw) q0 ci he hc hn hst hcat hdg (fun v u H1 l1 hp hw => kk v u H1 l1 hp (by rw [List.append_nil] at hw; exact hw))
/-- an argument out of the script -/
theorem zarg {sc L i v1 v2 : Nat} {xs : Nat → Int32} (k : Nat) {kz : Int} (hx : p.tables.exec = Jvm.exec) (hb : c.code = cc) (hX : va_X sc L xs s s.heap ∧ sc < s.heap.size ∧ ¬ A sc ∧ L ≤ 3072) (hS : va_S A s.heap H locs) (hi : i + 6 ≤ L) (hl : lv_has ls 4 [(3, .int (nI i)), (2, .ref v2), (1, .ref v1), (0, .ref sc)]) (hk : k < 6) (hkz : Int32.ofInt kz = nI k) (d0 : decode cc pc = .ok (.aload_n 0, 1)) (d1 : decode cc (pc + 1) = .ok (.iload_n 3, 1)) (d2 : decode cc (pc + 1 + 1) = .ok (.iconst kz, 1)) (d3 : decode cc (pc + 1 + 1 + 1) = .ok (.iadd, 1)) (d4 : decode cc (pc + 1 + 1 + 1 + 1) = .ok (.iaload, 1))
    (kk : W p x.1 e R s m args below meth c H locs cells slots Q (F0 m (pc + 5) ls (.int (xs (i + k)) :: rest))) : W p x.1 e R s m args below meth c H locs cells slots Q (F0 m pc ls rest) := by
  refine lv_aload_n hx hb d0 rfl (lv_at hl 3 rfl) ?_
  refine lv_iload_n hx hb d1 rfl (lv_at hl 0 rfl) ?_
  refine lv_iconst (v := nI k) hx hb d2 hkz ?_
  refine lv_iadd hx hb d3 ?_
  have hL := hX.2.2.2
  refine va_sld hx hb hX.1 hX.2.1 hX.2.2.1 hS (by rw [nI_add]; exact vp_in_nI (by omega) (by omega)) d4 ?_
  rw [nI_add, nI_clamp (by omega)]
  exact kk
end ROWS8
/-- when the loop ends -/
theorem zend_lt : ∀ L, L < 6 → ∀ i, i ≤ L → nI L - 6 < nI i := by decide +kernel
theorem zend {L i : Nat} (hL : L ≤ 3072) (hi : i ≤ L) (h : ¬ nI L - 6 < nI i) : i + 6 ≤ L := by
  rcases Nat.lt_or_ge L 6 with h6 | h6
  · exact absurd (zend_lt L h6 i hi) h
  · obtain ⟨d, rfl⟩ : ∃ d, L = d + 6 := ⟨L - 6, by omega⟩
    have e : nI (d + 6) - 6 = nI d := by
      rw [← nI_add]; exact Int32.add_sub_cancel _ _
    rw [e] at h
    have := Nat.le_of_not_lt (fun h3 => h (nI_lt h3 (by omega)))
    omega
theorem zcase38 (v : Int32) : (v.toInt < 0 ∨ 37 < v.toInt) ∨ ∃ j : Nat, j < 38 ∧ v = nI j := by
  by_cases h : v.toInt < 0 ∨ 37 < v.toInt
  · exact Or.inl h
  · refine Or.inr ⟨v.toInt.toNat, by omega, ?_⟩
    refine Int32.toInt_inj.mp ?_
    rw [nI_toInt (by omega)]
    omega
