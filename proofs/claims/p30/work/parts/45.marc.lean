/-! the model: arcs -/
theorem arc_tab : ∀ h, h < 6 → ∀ e, e < 6 → (J e - J e / 10 * 10 - J h + 6 - (J e - J e / 10 * 10 - J h + 6) / 6 * 6 = fmC (J e - J e / 10 * 10 - J h)) ∧ (J (e + 10) - J (e + 10) / 10 * 10 - J h + 6 - (J (e + 10) - J (e + 10) / 10 * 10 - J h + 6) / 6 * 6 = fmC (J (e + 10) - J (e + 10) / 10 * 10 - J h)) := by decide +kernel
theorem q10 : ¬ (10 : Int32) = 0 := by decide
section S45
variable {z : Zr} {α β γ : Mem} {π : Nat → Nat} {η : Int64} {o : Nat → Int64} {od : Nat → UInt64} {n k : Nat}
end S45
