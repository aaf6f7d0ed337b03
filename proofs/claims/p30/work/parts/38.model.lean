/-! the model: cells, ways, distances -/
theorem J_shift (k : Nat) : 126 + J k = J (126 + k) := by
  show Int32.ofNat 126 + Int32.ofNat k = _
  rw [← Int32.ofNat_add]
theorem cell_J {α : Mem} {n : Nat} (H : Ok α n) {c : Int32} (h : isCellC α 4 c) : ∃ k, k < 144 ∧ c = J k := by
  have h1 := h.1; have h2 := h.2.2
  rw [i32_le, ti0] at h1; rw [i32_lt, ti144] at h2
  exact J_rng h1 h2
theorem Jm1 {i : Nat} (h : i < 2147483648) : ¬ J i = -1 := by rw [i32_eq, J_ti h, tim1]; omega
theorem shipOn_rng (α : Mem) (c : Int32) : ∀ k i, i + k ≤ 8 → shipOnF α c k i = -1 ∨ ∃ j, j < i + k ∧ shipOnF α c k i = J j := by
  intro k
  induction k with
  | zero => intro i _; exact Or.inl rfl
  | succ k ih =>
    intro i hi
    unfold shipOnF
    split
    · exact Or.inr ⟨i, by omega, rfl⟩
    · rcases ih (i + 1) (by omega) with h | ⟨j, hj, h⟩
      · exact Or.inl h
      · exact Or.inr ⟨j, by omega, h⟩
theorem shipOn_m2 {α : Mem} {n : Nat} (h8 : n ≤ 8) (c : Int32) : ¬ shipOnF α c n 0 = -2 := by
  rcases shipOn_rng α c n 0 (by omega) with h | ⟨j, hj, h⟩
  · rw [h]; decide
  · rw [h, i32_eq, J_ti (by omega)]; show ¬ (j : Int) = -2; omega
theorem thing_free {α : Mem} {n : Nat} (h8 : n ≤ 8) {c : Int32} (hc : isCellC α 4 c) : (thingC α n c = -1) = freeC α n c := by
  unfold thingC rockC freeC
  apply propext
  by_cases q : α 5 c.toNatClampNeg = 0
  · rw [if_neg (fun w => w.2 q)]
    exact ⟨fun h => ⟨hc, q, h⟩, fun h => h.2.2⟩
  · rw [if_pos ⟨hc, q⟩]
    exact ⟨fun h => absurd h (by decide), fun h => absurd h.2.1 q⟩
theorem far_alt (a b c : Int32) : (if a ≤ b then (if b ≤ c then c else b) else (if a ≤ c then c else a)) = mxC c (mxC a b) := by
  rw [i32_eq, mx_ti, mx_ti]
  simp only [i32_le]
  (repeat' split) <;> omega
section S38
variable {z : Zr} {α β γ : Mem} {π : Nat → Nat} {η : Int64} {o : Nat → Int64} {od : Nat → UInt64} {n k : Nat}
end S38
