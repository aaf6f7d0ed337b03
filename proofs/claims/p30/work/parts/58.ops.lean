/-! moves and fights: the model's public methods, and the calls -/
theorem l30 : ((3 : Int32) = 0) = False := eq_false (by decide)
section S58
variable {z : Zr} {α β γ : Mem} {π : Nat → Nat} {η : Int64} {o : Nat → Int64} {od : Nat → UInt64} {n l k : Nat}
theorem bs_tab : ∀ j, j < 8 → J (2 * j) / 2 = J j ∧ J (2 * j) - J (2 * j) / 2 * 2 = 0 ∧ (J (2 * j) + 1) / 2 = J j ∧ J (2 * j) + 1 - (J (2 * j) + 1) / 2 * 2 = 1 ∧ 2 * J j + 0 = J (2 * j) ∧ 2 * J j + 1 = J (2 * j) + 1 ∧ J (2 * j) + 1 + 1 = J (2 * (j + 1)) := by decide +kernel
theorem force_self (α : Mem) (n i : Nat) (g : Int32) : forceC α n i g i = 0 := by
  unfold forceC
  rw [if_neg (fun w : canFC α n i g i => w.1.2.2 rfl)]
theorem q2' : ¬ (2 : Int32) = 0 := by decide
end S58
section S58o
variable {z : Zr} {α β γ : Mem} {π : Nat → Nat} {η : Int64} {o : Nat → Int64} {od : Nat → UInt64} {n l k : Nat}
end S58o
