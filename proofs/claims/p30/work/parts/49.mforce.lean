/-! the model: force, who may fire, grapples -/
/-- ships afloat stand on cells of their own -/
def Dj (α : Mem) (n : Nat) : Prop := ∀ i j, i < n → j < n → i ≠ j → 0 < α (7 + i) 3 → 0 < α (7 + j) 3 → ¬ α (7 + i) 1 = α (7 + j) 1
theorem i50 : (5 : Int32) + 0 = 5 := by decide
theorem i51 : (5 : Int32) + 1 = 6 := by decide
theorem Jne {i j : Nat} (hi : i < 8) (hj : j < 8) (h : i ≠ j) : ¬ J i = J j := by rw [J_eq (by omega) (by omega)]; exact h
theorem ship_iff {α : Mem} {n : Nat} (H : Ok α n) {c : Int32} : isShipC α 4 c ↔ ∃ i, i < n ∧ c = J i := by
  constructor
  · exact fun h => isShip_ex H.hn H.n8 h
  · rintro ⟨i, hi, rfl⟩
    exact isShip_J H.hn H.n8 hi
section S49
variable {z : Zr} {α β γ : Mem} {π : Nat → Nat} {η : Int64} {o : Nat → Int64} {od : Nat → UInt64} {n k : Nat}
abbrev aimC (aim : Int32) : Prop := ¬ aim < 0 ∧ ¬ 2 < aim
end S49
