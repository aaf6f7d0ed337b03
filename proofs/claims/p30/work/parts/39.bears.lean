/-! the model: bearings -/
def detC (e : Nat) : Int32 := rowStep e * colStep ((e + 1) % 6) - colStep e * rowStep ((e + 1) % 6)
def beA (x y : Int32) (e : Nat) : Int32 := (x * colStep ((e + 1) % 6) - y * rowStep ((e + 1) % 6)) / detC e
def beB (x y : Int32) (e : Nat) : Int32 := (rowStep e * y - colStep e * x) / detC e
def bearF (x y : Int32) : Nat → Nat → Int32
  | 0, _ => -1
  | k + 1, e => if 0 < beA x y e ∧ ¬ beB x y e < 0 then (if beB x y e = 0 then J e + 10 else J e) else bearF x y k (e + 1)
theorem bear_tab : ∀ a, a < 23 → ∀ b, b < 23 → bearF (J a - 11) (J b - 11) 6 0 = sightC (J a - 11) (J b - 11) := by decide +kernel
theorem det_nz : ∀ e, e < 6 → ¬ detC e = 0 := by decide
theorem nx6 : ∀ e, e < 6 → J (e + 1) - J (e + 1) / 6 * 6 = J ((e + 1) % 6) := by decide
theorem J6 : (6 : Int32) = J 6 := rfl
theorem bear_eq {x y : Int32} (hx : -11 ≤ x.toInt ∧ x.toInt ≤ 11) (hy : -11 ≤ y.toInt ∧ y.toInt ≤ 11) : bearF x y 6 0 = sightC x y := by
  have t11 : (11 : Int32).toInt = 11 := rfl
  have ex : x + 11 - 11 = x := Int32.add_sub_cancel x 11
  have ey : y + 11 - 11 = y := Int32.add_sub_cancel y 11
  have e1 := add_ti (x := x) (y := 11) (by omega) (by omega)
  have e2 := add_ti (x := y) (y := 11) (by omega) (by omega)
  obtain ⟨a, ha, e3⟩ := J_rng (v := x + 11) (k := 23) (by omega) (by omega)
  obtain ⟨b, hb, e4⟩ := J_rng (v := y + 11) (k := 23) (by omega) (by omega)
  rw [e3] at ex; rw [e4] at ey
  rw [← ex, ← ey]
  exact bear_tab a ha b hb
section S39
variable {z : Zr} {α β γ : Mem} {π : Nat → Nat} {η : Int64} {o : Nat → Int64} {od : Nat → UInt64} {n k : Nat}
end S39
