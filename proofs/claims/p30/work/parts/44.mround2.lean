/-! the model: the end of a round, its second half -/
theorem i90 : (9 : Int32) + 0 = 9 := by decide
theorem i91 : (9 : Int32) + 1 = 10 := by decide
theorem l21 : ((2 : Int32) ≤ 1) = False := eq_false (by decide)
theorem l20 : ((2 : Int32) ≤ 0) = False := eq_false (by decide)
theorem l22 : ((2 : Int32) ≤ 2) = True := eq_true (by decide)
theorem l02 : ((0 : Int32) < 2) = True := eq_true (by decide)
theorem l22' : ((2 : Int32) < 2) = False := eq_false (by decide)
theorem wt_v {w : Int32} (h : 0 ≤ w.toInt ∧ w.toInt ≤ 2) : mxC 0 (w - 1) = if 0 < w then w - 1 else 0 := by
  have e := sub_ti (x := w) (y := 1) (by rw [ti1]; omega) (by rw [ti1]; omega)
  rw [ti1] at e
  rw [i32_eq, mx_ti, ti0, e]
  simp only [i32_lt, ti0]
  (repeat' split) <;> (try rw [e]) <;> (try rw [ti0]) <;> omega
section S44
variable {z : Zr} {α β γ : Mem} {π : Nat → Nat} {η : Int64} {o : Nat → Int64} {od : Nat → UInt64} {n k : Nat}
end S44
