/-! the model: shots, boarding -/
theorem mn_comm (x y : Int32) : mnC x y = mnC y x := by
  rw [i32_eq, mn_ti, mn_ti]
  (repeat' split) <;> omega
theorem arc_rng (h s : Int32) : arcC h s = -1 ∨ arcC h s = 0 ∨ arcC h s = 1 := by
  unfold arcC
  (repeat' split) <;> simp
theorem up2_cm (α : Mem) {a k b m : Nat} (h : a ≠ b ∨ k ≠ m) (v w : Int32) : up2 (up2 α a k v) b m w = up2 (up2 α b m w) a k v := by
  funext j q
  by_cases h1 : j = a
  · subst h1
    by_cases h2 : j = b
    · subst h2
      simp only [up2_a]
      by_cases w1 : q = m
      · subst w1
        rw [if_pos rfl, if_neg (by omega), if_pos rfl]
      · rw [if_neg w1]
        split <;> first | rfl | (rw [if_neg w1])
    · rw [up2_ne _ h2, up2_a, up2_a, up2_ne _ h2]
  · by_cases h2 : j = b
    · subst h2
      rw [up2_a, up2_ne _ h1, up2_ne _ h1, up2_a]
    · rw [up2_ne _ h2, up2_ne _ h1, up2_ne _ h1, up2_ne _ h2]
theorem m10 : ¬ (-1 : Int32) = 0 := by decide
theorem m11 : ¬ (-1 : Int32) = 1 := by decide
theorem l0m : ((0 : Int32) = -1) = False := eq_false (by decide)
theorem l1m : ((1 : Int32) = -1) = False := eq_false (by decide)
theorem q12 : ¬ (12 : Int32) = 0 := by decide
theorem q4' : ¬ (4 : Int32) = 0 := by decide
theorem q5' : ¬ (5 : Int32) = 0 := by decide
section S50
variable {z : Zr} {α β γ : Mem} {π : Nat → Nat} {η : Int64} {o : Nat → Int64} {od : Nat → UInt64} {n k : Nat}
end S50
