/-! the model: letting go, losing -/
theorem up2_same {α : Mem} {a k : Nat} {v : Int32} (h : α a k = v) : up2 α a k v = α := by
  funext j m
  by_cases q : j = a
  · subst q
    rw [up2_a]
    by_cases w : m = k
    · rw [if_pos w, w, h]
    · rw [if_neg w]
  · rw [up2_ne _ q]
section S46
variable {z : Zr} {α β γ : Mem} {π : Nat → Nat} {η : Int64} {o : Nat → Int64} {od : Nat → UInt64} {n k : Nat}
end S46
