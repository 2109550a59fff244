/-! THE START: what the premises give -/
def zFl : List Cond := flatC (Jvm.Cond.and given_1 narrow_1)
def zTm (i : Nat) : Term := .string (zSo.getD i "") (zSi.getD i 0)
theorem zp_ex : ∀ i, i < 16 → Cond.exactly (zTm i) "java/lang/String" ∈ zFl := by decide +kernel
theorem zp_co : ∀ i, i < 16 → Cond.eq (.field (zTm i) "java/lang/String" "coder" "B") (.int 0) ∈ zFl := by decide +kernel
theorem zp_ar : ∀ i, i < 16 → Cond.arrayOf (.field (zTm i) "java/lang/String" "value" "[B") .byte ∈ zFl := by decide +kernel
theorem zp_le : ∀ i, i < 16 → Cond.eq (.length (.field (zTm i) "java/lang/String" "value" "[B")) (.int (Int32.ofNat (zSn.getD i 0))) ∈ zFl := by decide +kernel
theorem zp_el : ∀ i, i < 16 → ∀ j, j < zSn.getD i 0 → Cond.eq (.elem (.field (zTm i) "java/lang/String" "value" "[B") (.int (Int32.ofNat j))) (.int ((zSb.getD i []).getD j 0)) ∈ zFl := by decide +kernel
theorem zp_n1 : ∀ i, i < 16 → ∀ j, j < i → zFl[[0, 46, 56, 67, 78, 90, 101, 115, 130, 145, 162, 182, 204, 223, 246, 267].getD i 0 + j]? = some (Cond.not (Cond.eq (zTm j) (zTm i))) := by decide +kernel
theorem zp_ne (i : Nat) (hi : i < 16) (j : Nat) (hj : j < 16) (hij : i ≠ j) : Cond.not (Cond.eq (zTm i) (zTm j)) ∈ zFl ∨ Cond.not (Cond.eq (zTm j) (zTm i)) ∈ zFl := by
  rcases Nat.lt_or_gt_of_ne hij with h | h
  · exact Or.inl (List.mem_of_getElem? (zp_n1 j hj i h))
  · exact Or.inr (List.mem_of_getElem? (zp_n1 i hi j h))
theorem zp_sn : ∀ i, i < 16 → zSn.getD i 0 < 2 ^ 31 := by decide +kernel
theorem zp_m0 : ∀ j, j < 4 → Cond.eq (.elem (.static "HoleFills" "MOST_OF_TOWN" "[I") (.int (Int32.ofNat j))) (.int ((zMo 0).getD j 0)) ∈ zFl := by decide +kernel
theorem zp_m1 : ∀ j, j < 2 → Cond.eq (.elem (.static "HoleFills" "MOST_OF_STREET" "[I") (.int (Int32.ofNat j))) (.int ((zMo 1).getD j 0)) ∈ zFl := by decide +kernel
theorem zp_m2 : ∀ j, j < 6 → Cond.eq (.elem (.static "HoleFills" "MOST_OF_HOLE" "[I") (.int (Int32.ofNat j))) (.int ((zMo 2).getD j 0)) ∈ zFl := by decide +kernel
theorem zp_sr0 : Cond.stringRef (zSo.getD 0 "") (zSi.getD 0 0) (zSt.getD 0 "") ∈ lw_tbl := List.mem_of_getElem? (i := 523) (by decide +kernel)
theorem zp_sr1 : Cond.stringRef (zSo.getD 1 "") (zSi.getD 1 0) (zSt.getD 1 "") ∈ lw_tbl := List.mem_of_getElem? (i := 524) (by decide +kernel)
theorem zp_sr2 : Cond.stringRef (zSo.getD 2 "") (zSi.getD 2 0) (zSt.getD 2 "") ∈ lw_tbl := List.mem_of_getElem? (i := 525) (by decide +kernel)
theorem zp_sr3 : Cond.stringRef (zSo.getD 3 "") (zSi.getD 3 0) (zSt.getD 3 "") ∈ lw_tbl := List.mem_of_getElem? (i := 526) (by decide +kernel)
theorem zp_sr4 : Cond.stringRef (zSo.getD 4 "") (zSi.getD 4 0) (zSt.getD 4 "") ∈ lw_tbl := List.mem_of_getElem? (i := 527) (by decide +kernel)
theorem zp_sr5 : Cond.stringRef (zSo.getD 5 "") (zSi.getD 5 0) (zSt.getD 5 "") ∈ lw_tbl := List.mem_of_getElem? (i := 528) (by decide +kernel)
theorem zp_sr6 : Cond.stringRef (zSo.getD 6 "") (zSi.getD 6 0) (zSt.getD 6 "") ∈ lw_tbl := List.mem_of_getElem? (i := 586) (by decide +kernel)
theorem zp_sr7 : Cond.stringRef (zSo.getD 7 "") (zSi.getD 7 0) (zSt.getD 7 "") ∈ lw_tbl := List.mem_of_getElem? (i := 596) (by decide +kernel)
theorem zp_sr8 : Cond.stringRef (zSo.getD 8 "") (zSi.getD 8 0) (zSt.getD 8 "") ∈ lw_tbl := List.mem_of_getElem? (i := 598) (by decide +kernel)
theorem zp_sr9 : Cond.stringRef (zSo.getD 9 "") (zSi.getD 9 0) (zSt.getD 9 "") ∈ lw_tbl := List.mem_of_getElem? (i := 599) (by decide +kernel)
theorem zp_sr10 : Cond.stringRef (zSo.getD 10 "") (zSi.getD 10 0) (zSt.getD 10 "") ∈ lw_tbl := List.mem_of_getElem? (i := 600) (by decide +kernel)
theorem zp_sr11 : Cond.stringRef (zSo.getD 11 "") (zSi.getD 11 0) (zSt.getD 11 "") ∈ lw_tbl := List.mem_of_getElem? (i := 601) (by decide +kernel)
theorem zp_sr12 : Cond.stringRef (zSo.getD 12 "") (zSi.getD 12 0) (zSt.getD 12 "") ∈ lw_tbl := List.mem_of_getElem? (i := 606) (by decide +kernel)
theorem zp_sr13 : Cond.stringRef (zSo.getD 13 "") (zSi.getD 13 0) (zSt.getD 13 "") ∈ lw_tbl := List.mem_of_getElem? (i := 607) (by decide +kernel)
theorem zp_sr14 : Cond.stringRef (zSo.getD 14 "") (zSi.getD 14 0) (zSt.getD 14 "") ∈ lw_tbl := List.mem_of_getElem? (i := 608) (by decide +kernel)
theorem zp_sr15 : Cond.stringRef (zSo.getD 15 "") (zSi.getD 15 0) (zSt.getD 15 "") ∈ lw_tbl := List.mem_of_getElem? (i := 609) (by decide +kernel)
theorem zp_sr : ∀ i, i < 16 → Cond.stringRef (zSo.getD i "") (zSi.getD i 0) (zSt.getD i "") ∈ lw_tbl := fun i hi => by
  rcases (show i = 0 ∨ i = 1 ∨ i = 2 ∨ i = 3 ∨ i = 4 ∨ i = 5 ∨ i = 6 ∨ i = 7 ∨ i = 8 ∨ i = 9 ∨ i = 10 ∨ i = 11 ∨ i = 12 ∨ i = 13 ∨ i = 14 ∨ i = 15 by omega) with rfl | rfl | rfl | rfl | rfl | rfl | rfl | rfl | rfl | rfl | rfl | rfl | rfl | rfl | rfl | rfl
  · exact zp_sr0
  · exact zp_sr1
  · exact zp_sr2
  · exact zp_sr3
  · exact zp_sr4
  · exact zp_sr5
  · exact zp_sr6
  · exact zp_sr7
  · exact zp_sr8
  · exact zp_sr9
  · exact zp_sr10
  · exact zp_sr11
  · exact zp_sr12
  · exact zp_sr13
  · exact zp_sr14
  · exact zp_sr15
/-- what the tables and the premises give at the law's entry -/
theorem zstart (l : Launch) {s : State} {args : Array Value} (hts : ∀ w ∈ lw_tbl, w.before args s = true) (hgv : (Jvm.Cond.and given_1 narrow_1).before args s = true) : ∃ x : zX, x.1 = l ∧ va_K (zD x) vwCl (zTy x) s ∧ zE x (fun q : Nat => s.heap.size ≤ q) s ∧ zE5 s := by
  have hs : ∀ w ∈ zFl, w.before args s = true := flat_of_before _ hgv
  have ht : ∀ w ∈ zGW, w.before args s = true := fun w h => hts w (List.mem_filter.mp h).1
  have hA : ∀ q : Nat, q < s.heap.size → ¬ s.heap.size ≤ q := fun q h => Nat.not_le.mpr h
  have tb : ∀ {i : Nat} {w : Cond}, lw_tbl[i]? = some w → w.before args s = true := fun h => hts _ (List.mem_of_getElem? h)
  obtain ⟨c0, i0, k0⟩ := u_known (C := RX1) (T := TX1) (N := 3) (n := 3) ht inX1 (ht _ zinX1)
  obtain ⟨c1, i1, k1⟩ := u_known (C := RX2) (T := TX2) (N := 6) (n := 6) ht inX2 (ht _ zinX2)
  obtain ⟨c2, i2, k2⟩ := u_known (C := RX3) (T := TX3) (N := 16) (n := 16) ht inX3 (ht _ zinX3)
  obtain ⟨c3, i3, k3⟩ := u_known (C := RX5) (T := TX5) (N := 7) (n := 7) ht inX5 (ht _ zinX5)
  obtain ⟨c4, i4, k4⟩ := u_known (C := RX6) (T := TX6) (N := 16) (n := 16) ht inX6 (ht _ zinX6)
  have hao : (Cond.arrayOver (.object "HoleFills$Sheet")).before args s = true := tb (i := 182) (by decide +kernel)
  obtain ⟨cI, kI, pI, fI, gI, eI⟩ := Cond.arrayClass_spec (ht _ zaI)
  obtain ⟨cJ, kJ, pJ, fJ, gJ, eJ⟩ := Cond.arrayClass_spec (ht _ zaL)
  obtain ⟨pO, cO, kO, fO, hO, gO, eO, nO⟩ := Cond.arrayOver_spec hao
  obtain ⟨adK, adV, hvs, hev⟩ := vk_Sof (args := args) (s := s) (N := 16) (tm := zTm) (len := zSn) (byt := zSb) (A := fun q : Nat => s.heap.size ≤ q) zp_sn (fun i hi => hs _ (zp_ex i hi)) (fun i hi => hs _ (zp_co i hi)) (fun i hi => hs _ (zp_ar i hi)) (fun i hi => hs _ (zp_le i hi)) (fun i hi j hj => hs _ (zp_el i hi j hj)) (fun i j hi hj hij => (zp_ne i hi j hj hij).imp (fun h => hs _ h) (fun h => hs _ h)) hA
  obtain ⟨t0, e0, T0⟩ := va_Tof (args := args) (s := s) (tm := .static "HoleFills" "MOST_OF_TOWN" "[I") (ty := .int) (N := 4) (f := fun j => .int ((zMo 0).getD j 0)) (A := fun q : Nat => s.heap.size ≤ q) (by decide) (hs _ (by decide +kernel)) (va_eqt (hs (Cond.eq (.length (.static "HoleFills" "MOST_OF_TOWN" "[I")) (.int (Int32.ofNat 4))) (by decide +kernel))) (fun j hj => va_eqt (hs _ (zp_m0 j hj))) hA
  obtain ⟨t1, e1, T1⟩ := va_Tof (args := args) (s := s) (tm := .static "HoleFills" "MOST_OF_STREET" "[I") (ty := .int) (N := 2) (f := fun j => .int ((zMo 1).getD j 0)) (A := fun q : Nat => s.heap.size ≤ q) (by decide) (hs _ (by decide +kernel)) (va_eqt (hs (Cond.eq (.length (.static "HoleFills" "MOST_OF_STREET" "[I")) (.int (Int32.ofNat 2))) (by decide +kernel))) (fun j hj => va_eqt (hs _ (zp_m1 j hj))) hA
  obtain ⟨t2, e2, T2⟩ := va_Tof (args := args) (s := s) (tm := .static "HoleFills" "MOST_OF_HOLE" "[I") (ty := .int) (N := 6) (f := fun j => .int ((zMo 2).getD j 0)) (A := fun q : Nat => s.heap.size ≤ q) (by decide) (hs _ (by decide +kernel)) (va_eqt (hs (Cond.eq (.length (.static "HoleFills" "MOST_OF_HOLE" "[I")) (.int (Int32.ofNat 6))) (by decide +kernel))) (fun j hj => va_eqt (hs _ (zp_m2 j hj))) hA
  have hini : (Cond.initialized "HoleFills").before args s = true := tb (i := 53) (by decide +kernel)
  refine ⟨(l, (adK, adV, zad [t0, t1, t2]), ((fun k => [c0, c1, c2, c3, c4].getD k c0), (fun k => [i0, i1, i2, i3, i4].getD k i0)), cI, cJ, cO), rfl, ⟨fun k q hq => ?_, fun k q hq => ?_⟩, ⟨⟨?_, ?_⟩, ⟨?_, ?_, ?_⟩, ⟨T0, T1, T2⟩, ⟨?_, ?_⟩, ?_, hvs⟩, ?_, ?_, ?_, ?_⟩
  · match k, hq with
    | 0, hq => cases hq; exact k0
    | 1, hq => cases hq; exact k1
    | 2, hq => cases hq; exact k2
    | 3, hq => cases hq; exact k3
    | 4, hq => cases hq; exact k4
    | k + 5, hq => simp [vwCl] at hq
  · match k, hq with
    | 0, hq => cases hq; exact ⟨fun n z => ⟨fun k h => (by cases h), kI, gI, pI, eI⟩, fI⟩
    | 1, hq => cases hq; exact ⟨fun n z => ⟨fun k h => (by cases h), kJ, gJ, pJ, eJ⟩, fJ⟩
    | 2, hq => cases hq; exact ⟨fun n z => ⟨fun k h => (by cases h), kO, gO, pO, eO⟩, kO, pO, gO, eO, fO, nO⟩
    | k + 3, hq => simp at hq
  · exact va_Nw.of rfl (tb (i := 294) (by decide +kernel))
  · exact va_Nw.of rfl (tb (i := 605) (by decide +kernel))
  · exact va_Zof (tb (i := 232) (by decide +kernel)) hini e0 hA
  · exact va_Zof (tb (i := 250) (by decide +kernel)) hini e1 hA
  · exact va_Zof (tb (i := 327) (by decide +kernel)) hini e2 hA
  · exact va_Zof (tb (i := 542) (by decide +kernel)) (tb (i := 62) (by decide +kernel)) (va_eqt (hs _ (by decide +kernel))) hA
  · exact va_Zqof (tb (i := 558) (by decide +kernel)) (tb (i := 64) (by decide +kernel)) (hs _ (by decide +kernel)) hA
  · exact fun i hi => vk_R.of (hts _ (zp_sr i hi)) (hev i hi)
  · exact va_Nw.of rfl (tb (i := 77) (by decide +kernel))
  · exact va_Nw.of rfl (tb (i := 155) (by decide +kernel))
  · exact va_Nw.of rfl (tb (i := 184) (by decide +kernel))
  · exact va_AO.of hao
