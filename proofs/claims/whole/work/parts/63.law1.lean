/-! THE LAW: calls that leave the town -/
theorem zm_streetOf_S (S : zT) (fd : Nat → Int32) (r w : Int32) : (zm_streetOf S fd r w).2.1 = S := by unfold zm_streetOf; (repeat' split) <;> rfl
theorem zm_of_S (S : zT) (fd : Nat → Int32) (h w : Int32) : (zm_of S fd h w).2.1 = S := by unfold zm_of; (repeat' split) <;> rfl
theorem zm_as_S (S : zT) (fd : Nat → Int32) (h k : Int32) : (zm_as S fd h k).2.1 = S := by unfold zm_as; (repeat' split) <;> rfl
theorem zm_next_S (S : zT) (fd : Nat → Int32)  : (zm_next S fd ).2.1 = S := by unfold zm_next; (repeat' split) <;> rfl
theorem zm_now_S (S : zT) (fd : Nat → Int32) (w : Int32) : (zm_now S fd w).2.1 = S := by unfold zm_now; (repeat' split) <;> rfl
theorem zm_on_S (S : zT) (fd : Nat → Int32) (h n w : Int32) : (zm_on S fd h n w).2.1 = S := by unfold zm_on; (repeat' split) <;> rfl
theorem zm_worse_S (S : zT) (fd : Nat → Int32) (n : Int32) : (zm_worse S fd n).2.1 = S := by unfold zm_worse; (repeat' split) <;> rfl
theorem zm_cost_S (S : zT) (fd : Nat → Int32) (n : Int32) : (zm_cost S fd n).2.1 = S := by unfold zm_cost; (repeat' split) <;> rfl
theorem zm_how_S (S : zT) (fd : Nat → Int32) (n : Int32) : (zm_how S fd n).2.1 = S := by unfold zm_how; (repeat' split) <;> rfl
theorem zm_ring_S (S : zT) (fd : Nat → Int32) (n : Int32) : (zm_ring S fd n).2.1 = S := by unfold zm_ring; (repeat' split) <;> rfl
theorem zm_kind_S (S : zT) (fd : Nat → Int32) (h n : Int32) : (zm_kind S fd h n).2.1 = S := by unfold zm_kind; (repeat' split) <;> rfl
theorem zm_let_S (S : zT) (fd : Nat → Int32) (n : Int32) : (zm_let S fd n).2.1 = S := by unfold zm_let; (repeat' split) <;> rfl
theorem zm_worst_S (S : zT) (fd : Nat → Int32) (n : Int32) : (zm_worst S fd n).2.1 = S := by unfold zm_worst; (repeat' split) <;> rfl
theorem zm_first_S (b : Bool) (S : zT) (fd : Nat → Int32) (h : Int32) : (zm_first b S fd h).2.1 = S := by unfold zm_first; (repeat' split) <;> rfl
theorem zm_least_S (j hi : Nat) (mx : Int32) (S : zT) (fd : Nat → Int32) (n v : Int32) : (zm_least j hi mx S fd n v).2.1 = S := by unfold zm_least; (repeat' split) <;> rfl
