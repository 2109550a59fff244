/-! THE CLASS'S TEXT: items -/
theorem zAd_st (S : zT) (kd st : Int32) : zU (zAd S kd 0) 4 (zN S) st = zAd S kd st := by
  funext c j
  by_cases h4 : c = 4
  · subst h4
    by_cases hj : j = zN S <;> simp [zAd, zU, upd, hj]
  · simp [zAd, zU, upd, h4]
theorem zAd_5 (S : zT) (kd st : Int32) : zAd S kd st 5 (zN S) = 5 := by simp [zAd, zU, upd]
theorem zAd_6 (S : zT) (kd st : Int32) : zAd S kd st 6 (zN S) = 0 := by simp [zAd, zU, upd]
theorem zAd_8 (S : zT) (kd st : Int32) : zAd S kd st 8 (zN S) = 0 := by simp [zAd, zU, upd]
theorem zU_eq {S : zT} {c j : Nat} {v : Int32} (h : S c j = v) : zU S c j v = S := by rw [← h]; exact zU_self S c j
/-- the class behind a reading -/
def zPC (x : zX) (b t : Nat → Nat) (lk : Int32) (tb : Nat → Int32) (n : Nat) (r : zRd) (v' : Option Value) (u' : va_W) : Prop := ∃ (v2 : Int32) (T2 : zT), match r with
  | .inl z => v' = some (.int 0) ∧ u' = zPW x b tb (zTp tb n z v2) ++ zTW x t T2 lk
  | .inr q => v' = some (.int 1) ∧ u' = zPW x b tb (zTp tb n q.1 v2) ++ zTW x t q.2 lk
theorem zPC.i {x : zX} {b t : Nat → Nat} {lk : Int32} {tb : Nat → Int32} {n : Nat} {r : zRd} {z : Nat} {v2 : Int32} {T2 : zT} (h : r = .inl z) : zPC x b t lk tb n r (some (.int 0)) (zPW x b tb (zTp tb n z v2) ++ zTW x t T2 lk) := ⟨v2, T2, by rw [h]; exact ⟨rfl, rfl⟩⟩
theorem zPC.o {x : zX} {b t : Nat → Nat} {lk : Int32} {tb : Nat → Int32} {n : Nat} {r : zRd} {z : Nat} {v2 : Int32} {T2 : zT} (h : r = .inr (z, T2)) : zPC x b t lk tb n r (some (.int 1)) (zPW x b tb (zTp tb n z v2) ++ zTW x t T2 lk) := ⟨v2, T2, by rw [h]; exact ⟨rfl, rfl⟩⟩
theorem zPT_fs {x : zX} {b t : Nat → Nat} {tb : Nat → Int32} (q r : Nat → Int32) (S T : zT) (lk lj : Int32) : (zPW x b tb q ++ zTW x t S lk).map Prod.fst = (zPW x b tb r ++ zTW x t T lj).map Prod.fst := rfl
theorem zPa_n {B : Nat → Int32} {n y : Nat} {l : List Int32} {most : Nat} {S : zT} {c j : Nat} (h : ¬ zIs B n y l) : zPa B n y l most S c j = .inr (y, S) := if_neg h
theorem zPa_f {B : Nat → Int32} {n y : Nat} {l : List Int32} {most : Nat} {S : zT} {c j : Nat} (h : zIs B n y l) (hz : zNu B n (zNx B n y) most = none) : zPa B n y l most S c j = .inl (zNx B n y) := by
  unfold zPa; rw [if_pos h, hz]
theorem zPa_t {B : Nat → Int32} {n y z : Nat} {l : List Int32} {most : Nat} {S : zT} {c j : Nat} (h : zIs B n y l) (hz : zNu B n (zNx B n y) most = some z) : zPa B n y l most S c j = .inr (zNx B n (zNx B n y), zU S c j (nI z)) := by
  unfold zPa; rw [if_pos h, hz]
theorem zWi_t {B : Nat → Int32} {n y : Nat} {l : List Int32} {S : zT} {c j : Nat} {v : Int32} (h : zIs B n y l) : zWi B n y l S c j v = (zNx B n y, zU S c j v) := if_pos h
theorem zWi_f {B : Nat → Int32} {n y : Nat} {l : List Int32} {S : zT} {c j : Nat} {v : Int32} (h : ¬ zIs B n y l) : zWi B n y l S c j v = (y, S) := if_neg h
