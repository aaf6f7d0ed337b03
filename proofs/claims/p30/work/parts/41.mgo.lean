/-! the model: going ahead, turning -/
theorem nb_cell {α : Mem} {n : Nat} (H : Ok α n) (c : Int32) (e : Nat) : nbC α c e = -1 ∨ isCellC α 4 (nbC α c e) := by
  unfold nbC
  split
  · next h =>
    right
    obtain ⟨h1, h2, h3, h4⟩ := h
    rw [i32_le, ti0] at h1 h3
    rw [i32_lt] at h2 h4
    have hw := H.wh; have hc := H.cols; have hr := H.rows
    have m1 : (rowC α c + rowStep e).toInt * (α 4 0).toInt ≤ ((α 4 1).toInt - 1) * (α 4 0).toInt := Int.mul_le_mul_of_nonneg_right (by omega) (by omega)
    have m0 : 0 ≤ (rowC α c + rowStep e).toInt * (α 4 0).toInt := Int.mul_nonneg h1 (by omega)
    rw [Int.sub_mul, Int.one_mul, Int.mul_comm (α 4 1).toInt] at m1
    have e1 := mul_ti (x := rowC α c + rowStep e) (y := α 4 0) (by omega) (by omega)
    have e2 := add_ti (x := (rowC α c + rowStep e) * α 4 0) (y := colC α c + colStep e) (by omega) (by omega)
    refine ⟨?_, ?_, ?_⟩
    · rw [i32_le, ti0, e2, e1]; omega
    · rw [i32_lt, hw.1, e2, e1]; omega
    · rw [i32_lt, ti144, e2, e1]; omega
  · left; rfl
section S41
variable {z : Zr} {α β γ : Mem} {π : Nat → Nat} {η : Int64} {o : Nat → Int64} {od : Nat → UInt64} {n k : Nat}
theorem angJ3 {a b : Nat} (ha : a < 6) (hb : b < 6) : ((3 : Int32) ≤ J (angN a b)) = (angN a b = 3) := by
  have := ang_le a ha b hb
  rw [J3, J_le (by omega) (by omega)]
  exact propext ⟨fun _ => by omega, fun _ => by omega⟩
end S41
