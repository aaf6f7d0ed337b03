/-! the model: lines, hiding, raking, force -/
def Rw (α : Mem) (c : Int32) : Int := (rowC α c).toInt
def Cl (α : Mem) (c : Int32) : Int := (colC α c).toInt
theorem rc_eq {α : Mem} {n : Nat} (H : Ok α n) {a b : Int32} (ha : isCellC α 4 a) (hb : isCellC α 4 b) (h1 : Rw α a = Rw α b) (h2 : Cl α a = Cl α b) : a = b := by
  have ra := row_bd H ha; have rb := row_bd H hb
  unfold Rw at h1; unfold Cl at h2
  rw [ra.1, rb.1] at h1
  rw [ra.2.2.2.1, rb.2.2.2.1] at h2
  have e1 := Int.mul_ediv_add_emod a.toInt (α 4 0).toInt
  have e2 := Int.mul_ediv_add_emod b.toInt (α 4 0).toInt
  rw [i32_eq, ← e1, ← e2, h1, h2]
/-- the cell behind a step that stays on the sea -/
theorem nb_pos {α : Mem} {n : Nat} (H : Ok α n) {b : Int32} (e : Nat) (hb : isCellC α 4 b) (he : e < 6) (h1 : 0 ≤ Rw α b + (rowStep e).toInt) (h2 : Rw α b + (rowStep e).toInt < (α 4 1).toInt) (h3 : 0 ≤ Cl α b + (colStep e).toInt) (h4 : Cl α b + (colStep e).toInt < (α 4 0).toInt) : isCellC α 4 (nbC α b e) ∧ Rw α (nbC α b e) = Rw α b + (rowStep e).toInt ∧ Cl α (nbC α b e) = Cl α b + (colStep e).toInt := by
  have hc := H.cols; have hr := H.rows; have rb := row_bd H hb; have hw := H.wh
  unfold Rw Cl at *
  have st : ∀ e, e < 6 → -1 ≤ (rowStep e).toInt ∧ (rowStep e).toInt ≤ 1 ∧ -1 ≤ (colStep e).toInt ∧ (colStep e).toInt ≤ 1 := by decide
  have := st e he
  have a1 := add_ti (x := rowC α b) (y := rowStep e) (by omega) (by omega)
  have a2 := add_ti (x := colC α b) (y := colStep e) (by omega) (by omega)
  have hin : 0 ≤ rowC α b + rowStep e ∧ rowC α b + rowStep e < α 4 1 ∧ 0 ≤ colC α b + colStep e ∧ colC α b + colStep e < α 4 0 := by
    refine ⟨?_, ?_, ?_, ?_⟩
    · rw [i32_le, ti0, a1]; exact h1
    · rw [i32_lt, a1]; exact h2
    · rw [i32_le, ti0, a2]; exact h3
    · rw [i32_lt, a2]; exact h4
  have en : nbC α b e = (rowC α b + rowStep e) * α 4 0 + (colC α b + colStep e) := by unfold nbC; rw [if_pos hin]
  have hcell : isCellC α 4 (nbC α b e) := by
    rcases nb_cell H b e with q | q
    · have m1 : (rowC α b + rowStep e).toInt * (α 4 0).toInt ≤ ((α 4 1).toInt - 1) * (α 4 0).toInt := Int.mul_le_mul_of_nonneg_right (by omega) (by omega)
      have m0 : 0 ≤ (rowC α b + rowStep e).toInt * (α 4 0).toInt := Int.mul_nonneg (by omega) (by omega)
      rw [Int.sub_mul, Int.one_mul, Int.mul_comm (α 4 1).toInt] at m1
      have e1 := mul_ti (x := rowC α b + rowStep e) (y := α 4 0) (by omega) (by omega)
      have e2 := add_ti (x := (rowC α b + rowStep e) * α 4 0) (y := colC α b + colStep e) (by omega) (by omega)
      rw [en, i32_eq, e2, e1, tim1] at q
      omega
    · exact q
  have rn := row_bd H hcell
  have m1 : (rowC α b + rowStep e).toInt * (α 4 0).toInt ≤ ((α 4 1).toInt - 1) * (α 4 0).toInt := Int.mul_le_mul_of_nonneg_right (by omega) (by omega)
  have m0 : 0 ≤ (rowC α b + rowStep e).toInt * (α 4 0).toInt := Int.mul_nonneg (by omega) (by omega)
  rw [Int.sub_mul, Int.one_mul, Int.mul_comm (α 4 1).toInt] at m1
  have e1 := mul_ti (x := rowC α b + rowStep e) (y := α 4 0) (by omega) (by omega)
  have e2 := add_ti (x := (rowC α b + rowStep e) * α 4 0) (y := colC α b + colStep e) (by omega) (by omega)
  have ev : (nbC α b e).toInt = (rowC α b + rowStep e).toInt * (α 4 0).toInt + (colC α b + colStep e).toInt := by rw [en, e2, e1]
  refine ⟨hcell, ?_, ?_⟩
  · rw [rn.1, ev, Int.add_comm, Int.add_mul_ediv_right _ _ (show (α 4 0).toInt ≠ 0 by omega), Int.ediv_eq_zero_of_lt (by omega) (by omega), a1]; omega
  · rw [rn.2.2.2.1, ev, Int.add_comm, Int.add_mul_emod_self_right, Int.emod_eq_of_lt (by omega) (by omega), a2]
/-- on a line: t lies k steps in the direction e from b -/
def Ln (α : Mem) (e k : Nat) (b t : Int32) : Prop := Rw α t = Rw α b + k * (rowStep e).toInt ∧ Cl α t = Cl α b + k * (colStep e).toInt
theorem ln_st {α : Mem} {n : Nat} (H : Ok α n) {b t : Int32} {e k : Nat} (hb : isCellC α 4 b) (ht : isCellC α 4 t) (he : e < 6) (h : Ln α e (k + 1) b t) : isCellC α 4 (nbC α b e) ∧ Ln α e k (nbC α b e) t := by
  have rb := row_bd H hb; have rt := row_bd H ht
  obtain ⟨h1, h2⟩ := h
  have hx : e = 0 ∨ e = 1 ∨ e = 2 ∨ e = 3 ∨ e = 4 ∨ e = 5 := by omega
  have key : 0 ≤ Rw α b + (rowStep e).toInt ∧ Rw α b + (rowStep e).toInt < (α 4 1).toInt ∧ 0 ≤ Cl α b + (colStep e).toInt ∧ Cl α b + (colStep e).toInt < (α 4 0).toInt := by
    unfold Rw Cl at *
    rcases hx with rfl | rfl | rfl | rfl | rfl | rfl
    · have r : (rowStep 0).toInt = 0 := rfl
      have c : (colStep 0).toInt = 1 := rfl
      rw [r] at h1; rw [c] at h2; rw [r, c]; omega
    · have r : (rowStep 1).toInt = 1 := rfl
      have c : (colStep 1).toInt = 0 := rfl
      rw [r] at h1; rw [c] at h2; rw [r, c]; omega
    · have r : (rowStep 2).toInt = 1 := rfl
      have c : (colStep 2).toInt = -1 := rfl
      rw [r] at h1; rw [c] at h2; rw [r, c]; omega
    · have r : (rowStep 3).toInt = 0 := rfl
      have c : (colStep 3).toInt = -1 := rfl
      rw [r] at h1; rw [c] at h2; rw [r, c]; omega
    · have r : (rowStep 4).toInt = -1 := rfl
      have c : (colStep 4).toInt = 0 := rfl
      rw [r] at h1; rw [c] at h2; rw [r, c]; omega
    · have r : (rowStep 5).toInt = -1 := rfl
      have c : (colStep 5).toInt = 1 := rfl
      rw [r] at h1; rw [c] at h2; rw [r, c]; omega
  obtain ⟨p1, p2, p3⟩ := nb_pos H e hb he key.1 key.2.1 key.2.2.1 key.2.2.2
  refine ⟨p1, ?_, ?_⟩
  · rw [p2, h1, Int.natCast_add, Int.add_mul]; omega
  · rw [p3, h2, Int.natCast_add, Int.add_mul]; omega
theorem ln_ne {α : Mem} {b t : Int32} {e k : Nat} (he : e < 6) (h : Ln α e (k + 1) b t) : ¬ b = t := by
  intro q
  subst q
  obtain ⟨h1, h2⟩ := h
  have hx : e = 0 ∨ e = 1 ∨ e = 2 ∨ e = 3 ∨ e = 4 ∨ e = 5 := by omega
  rcases hx with rfl | rfl | rfl | rfl | rfl | rfl
  · have c : (colStep 0).toInt = 1 := rfl
    rw [c] at h2; omega
  · have c : (rowStep 1).toInt = 1 := rfl
    rw [c] at h1; omega
  · have c : (rowStep 2).toInt = 1 := rfl
    rw [c] at h1; omega
  · have c : (colStep 3).toInt = -1 := rfl
    rw [c] at h2; omega
  · have c : (rowStep 4).toInt = -1 := rfl
    rw [c] at h1; omega
  · have c : (rowStep 5).toInt = -1 := rfl
    rw [c] at h1; omega
theorem line_tab : ∀ a, a < 23 → ∀ b, b < 23 → sightC (J a - 11) (J b - 11) < 10 ∨ (1 ≤ (farC (J a - 11) (J b - 11)).toNatClampNeg ∧ (J a - 11 : Int32).toInt = (farC (J a - 11) (J b - 11)).toNatClampNeg * (rowStep (sightC (J a - 11) (J b - 11) - 10).toNatClampNeg).toInt ∧ (J b - 11 : Int32).toInt = (farC (J a - 11) (J b - 11)).toNatClampNeg * (colStep (sightC (J a - 11) (J b - 11) - 10).toNatClampNeg).toInt) := by decide +kernel
theorem line_eq {x y : Int32} (hx : -11 ≤ x.toInt ∧ x.toInt ≤ 11) (hy : -11 ≤ y.toInt ∧ y.toInt ≤ 11) (hl : ¬ sightC x y < 10) : 1 ≤ (farC x y).toNatClampNeg ∧ x.toInt = (farC x y).toNatClampNeg * (rowStep (sightC x y - 10).toNatClampNeg).toInt ∧ y.toInt = (farC x y).toNatClampNeg * (colStep (sightC x y - 10).toNatClampNeg).toInt := by
  have t11 : (11 : Int32).toInt = 11 := rfl
  have ex : x + 11 - 11 = x := Int32.add_sub_cancel x 11
  have ey : y + 11 - 11 = y := Int32.add_sub_cancel y 11
  have e1 := add_ti (x := x) (y := 11) (by omega) (by omega)
  have e2 := add_ti (x := y) (y := 11) (by omega) (by omega)
  obtain ⟨a, ha, e3⟩ := J_rng (v := x + 11) (k := 23) (by omega) (by omega)
  obtain ⟨b, hb, e4⟩ := J_rng (v := y + 11) (k := 23) (by omega) (by omega)
  rw [e3] at ex; rw [e4] at ey
  rw [← ex, ← ey] at hl ⊢
  exact (line_tab a ha b hb).resolve_left hl
theorem sg_ne {α : Mem} {n : Nat} (H : Ok α n) {a b : Int32} (ha : isCellC α 4 a) (hb : isCellC α 4 b) (h : ¬ a = b) : ¬ sgC α a b = -1 := by
  intro q
  apply h
  unfold sgC sightC at q
  have ra := row_bd H ha; have rb := row_bd H hb
  have hc := H.cols; have hr := H.rows
  have e1 := sub_ti (x := rowC α b) (y := rowC α a) (by omega) (by omega)
  have e2 := sub_ti (x := colC α b) (y := colC α a) (by omega) (by omega)
  split at q
  · next w =>
    rw [i32_eq, e1, i32_eq, e2, ti0] at w
    exact rc_eq H ha hb (by unfold Rw; omega) (by unfold Cl; omega)
  · exfalso
    obtain ⟨e, he, w⟩ := sector_rng (rowC α b - rowC α a) (colC α b - colC α a)
    rw [w] at q
    have tab : ∀ e, e < 6 → ¬ J e + 10 = -1 ∧ ¬ J e + 0 = -1 := by decide
    split at q
    · exact (tab e he).1 q
    · exact (tab e he).2 q
theorem rake_tab : ∀ e, e < 6 → ∀ h, h < 6 → (J e - J h + 6 - (J e - J h + 6) / 3 * 3 = 0) = (fmC (J e - J h) = 0 ∨ fmC (J e - J h) = 3) := by
  have tab : ∀ e, e < 6 → ∀ h, h < 6 → decide (J e - J h + 6 - (J e - J h + 6) / 3 * 3 = 0) = decide (fmC (J e - J h) = 0 ∨ fmC (J e - J h) = 3) := by decide +kernel
  intro e he h hh
  exact propext (decide_eq_decide.mp (tab e he h hh))
theorem q3 : ¬ (3 : Int32) = 0 := by decide
def orB (i : Int32) (p : Bool) : Int32 := if i = 0 then (if p then 1 else 0) else 1
section S48
variable {z : Zr} {α β γ : Mem} {π : Nat → Nat} {η : Int64} {o : Nat → Int64} {od : Nat → UInt64} {n k : Nat}
end S48
