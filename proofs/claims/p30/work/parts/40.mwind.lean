/-! the model: wind, speed, writes -/
theorem ang_m : ∀ a, a < 6 → ∀ b, b < 6 → (if J a - J b + 6 - (J a - J b + 6) / 6 * 6 ≤ 3 then J a - J b + 6 - (J a - J b + 6) / 6 * 6 else 6 - (J a - J b + 6 - (J a - J b + 6) / 6 * 6)) = J (angN a b) := by decide
theorem q6 : ¬ (6 : Int32) = 0 := by decide
theorem q20 : ¬ (20 : Int32) = 0 := by decide
theorem trn : ∀ h, h < 6 → (J h + 1 - (J h + 1) / 6 * 6 = J ((h + 1) % 6)) ∧ (J h + 5 - (J h + 5) / 6 * 6 = J ((h + 5) % 6)) := by decide
theorem slM_inj : ∀ a, a < 15 → ∀ b, b < 15 → slM a = slM b → a = b := by decide
section S40
variable {z : Zr} {α β γ : Mem} {π : Nat → Nat} {η : Int64} {o : Nat → Int64} {od : Nat → UInt64} {n k : Nat}
end S40
