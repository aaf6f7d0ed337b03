/-! cells, distances and bearings -/
theorem rcd {α : Mem} {n : Nat} (H : Ok α n) {a b : Int32} (ha : isCellC α 4 a) (hb : isCellC α 4 b) : (rowC α b - rowC α a).toInt = Rw α b - Rw α a ∧ (colC α b - colC α a).toInt = Cl α b - Cl α a ∧ (-11 ≤ Rw α b - Rw α a ∧ Rw α b - Rw α a ≤ 11) ∧ (-11 ≤ Cl α b - Cl α a ∧ Cl α b - Cl α a ≤ 11) := by
  have ra := row_bd H ha; have rb := row_bd H hb
  have hc := H.cols; have hr := H.rows
  have e1 := sub_ti (x := rowC α b) (y := rowC α a) (by omega) (by omega)
  have e2 := sub_ti (x := colC α b) (y := colC α a) (by omega) (by omega)
  unfold Rw Cl
  omega
theorem mCell_ {α : Mem} (h : isCellC α 4 (-1)) : False := absurd h.1 (by decide)
theorem fr_ti {α : Mem} {n : Nat} (H : Ok α n) {a b : Int32} (ha : isCellC α 4 a) (hb : isCellC α 4 b) : ((Rw α b - Rw α a ≤ (frC α a b).toInt ∧ Rw α a - Rw α b ≤ (frC α a b).toInt) ∧ (Cl α b - Cl α a ≤ (frC α a b).toInt ∧ Cl α a - Cl α b ≤ (frC α a b).toInt) ∧ (Rw α b - Rw α a + (Cl α b - Cl α a) ≤ (frC α a b).toInt ∧ Rw α a - Rw α b + (Cl α a - Cl α b) ≤ (frC α a b).toInt)) ∧ ((frC α a b).toInt = Rw α b - Rw α a ∨ (frC α a b).toInt = Rw α a - Rw α b ∨ (frC α a b).toInt = Cl α b - Cl α a ∨ (frC α a b).toInt = Cl α a - Cl α b ∨ (frC α a b).toInt = Rw α b - Rw α a + (Cl α b - Cl α a) ∨ (frC α a b).toInt = Rw α a - Rw α b + (Cl α a - Cl α b)) := by
  obtain ⟨e1, e2, h1, h2⟩ := rcd H ha hb
  have e3 := add_ti (x := rowC α b - rowC α a) (y := colC α b - colC α a) (by omega) (by omega)
  have a1 := abs_ti (x := rowC α b - rowC α a) (by omega)
  have a2 := abs_ti (x := colC α b - colC α a) (by omega)
  have a3 := abs_ti (x := rowC α b - rowC α a + (colC α b - colC α a)) (by omega)
  have e : (frC α a b).toInt = (farC (rowC α b - rowC α a) (colC α b - colC α a)).toInt := rfl
  rw [e]
  unfold farC
  rw [mx_ti, mx_ti, a1, a2, a3, e3, e1, e2]
  constructor <;> (repeat' split) <;> omega
theorem fr_sym {α : Mem} {n : Nat} (H : Ok α n) {a b : Int32} (ha : isCellC α 4 a) (hb : isCellC α 4 b) : frC α a b = frC α b a := by
  have h1 := fr_ti H ha hb
  have h2 := fr_ti H hb ha
  rw [i32_eq]
  omega
theorem fr_zero {α : Mem} {n : Nat} (H : Ok α n) {a b : Int32} (ha : isCellC α 4 a) (hb : isCellC α 4 b) : frC α a b = 0 ↔ a = b := by
  have h1 := fr_ti H ha hb
  constructor
  · intro h
    rw [i32_eq, ti0] at h
    exact rc_eq H ha hb (by omega) (by omega)
  · intro h
    subst h
    rw [i32_eq, ti0]
    omega
theorem fr_tri {α : Mem} {n : Nat} (H : Ok α n) {a b c : Int32} (ha : isCellC α 4 a) (hb : isCellC α 4 b) (hc : isCellC α 4 c) : ¬ frC α a b + frC α b c < frC α a c := by
  have h1 := fr_ti H ha hb
  have h2 := fr_ti H hb hc
  have h3 := fr_ti H ha hc
  obtain ⟨m1, b1, e1⟩ := far_bd H ha hb
  obtain ⟨m2, b2, e2⟩ := far_bd H hb hc
  have f1 : (frC α a b).toInt = m1 := by rw [e1]; exact J_ti (by omega)
  have f2 : (frC α b c).toInt = m2 := by rw [e2]; exact J_ti (by omega)
  have e := add_ti (x := frC α a b) (y := frC α b c) (by omega) (by omega)
  rw [i32_lt, e]
  omega
/-- a way of one move more -/
theorem fr_step {α : Mem} {n : Nat} (H : Ok α n) {a b c : Int32} (ha : isCellC α 4 a) (hb : isCellC α 4 b) (hc : isCellC α 4 c) (h1 : frC α b c = 1) : (frC α a c).toInt ≤ (frC α a b).toInt + 1 := by
  have q1 := fr_ti H ha hb
  have q2 := fr_ti H hb hc
  have q3 := fr_ti H ha hc
  rw [i32_eq, ti1] at h1
  omega
def oppC (s : Int32) : Int32 := (s - s / 10 * 10 + 3) - (s - s / 10 * 10 + 3) / 6 * 6 + (if 9 < s then 10 else 0)
theorem opp_tab : ∀ a, a < 23 → ∀ b, b < 23 → (J a - 11 = 0 ∧ J b - 11 = 0) ∨ (sightC (J a - 11) (J b - 11) < 16 ∧ ¬ sightC (J a - 11) (J b - 11) = -1 ∧ (sightC (J a - 11) (J b - 11) < 6 ∨ 9 < sightC (J a - 11) (J b - 11)) ∧ sightC (11 - J a) (11 - J b) = oppC (sightC (J a - 11) (J b - 11))) := by decide +kernel
theorem sg_self (α : Mem) (a : Int32) : sgC α a a = -1 := by
  unfold sgC sightC
  rw [if_pos ⟨Int32.sub_self _, Int32.sub_self _⟩]
theorem sg_opp {α : Mem} {n : Nat} (H : Ok α n) {a b : Int32} (ha : isCellC α 4 a) (hb : isCellC α 4 b) (hne : ¬ a = b) : sgC α a b < 16 ∧ ¬ sgC α a b = -1 ∧ (sgC α a b < 6 ∨ 9 < sgC α a b) ∧ sgC α b a = oppC (sgC α a b) := by
  have t11 : (11 : Int32).toInt = 11 := rfl
  obtain ⟨e1, e2, h1, h2⟩ := rcd H ha hb
  obtain ⟨g1, g2, -, -⟩ := rcd H hb ha
  have f1 := add_ti (x := rowC α b - rowC α a) (y := 11) (by omega) (by omega)
  have f2 := add_ti (x := colC α b - colC α a) (y := 11) (by omega) (by omega)
  obtain ⟨u, hu, e3⟩ := J_rng (v := rowC α b - rowC α a + 11) (k := 23) (by omega) (by omega)
  obtain ⟨v, hv, e4⟩ := J_rng (v := colC α b - colC α a + 11) (k := 23) (by omega) (by omega)
  have ju : (J u).toInt = u := J_ti (by omega)
  have jv : (J v).toInt = v := J_ti (by omega)
  rw [e3] at f1; rw [e4] at f2
  have k1 := sub_ti (x := J u) (y := 11) (by omega) (by omega)
  have k2 := sub_ti (x := J v) (y := 11) (by omega) (by omega)
  have k3 := sub_ti (x := 11) (y := J u) (by omega) (by omega)
  have k4 := sub_ti (x := 11) (y := J v) (by omega) (by omega)
  have x1 : rowC α b - rowC α a = J u - 11 := by rw [i32_eq]; omega
  have x2 : colC α b - colC α a = J v - 11 := by rw [i32_eq]; omega
  have x3 : rowC α a - rowC α b = 11 - J u := by rw [i32_eq]; omega
  have x4 : colC α a - colC α b = 11 - J v := by rw [i32_eq]; omega
  unfold sgC
  rw [x1, x2, x3, x4]
  refine (opp_tab u hu v hv).resolve_left (fun w => hne ?_)
  rw [← x1, ← x2, i32_eq, i32_eq, e1, e2, ti0] at w
  exact rc_eq H ha hb (by omega) (by omega)
theorem stp_tab : ∀ e, e < 6 → sightC (rowStep e) (colStep e) = J e + 10 ∧ farC (rowStep e) (colStep e) = 1 ∧ (-1 ≤ (rowStep e).toInt ∧ (rowStep e).toInt ≤ 1) ∧ (-1 ≤ (colStep e).toInt ∧ (colStep e).toInt ≤ 1) := by decide
/-- the next cell in a direction, where there is one -/
theorem nb_at {α : Mem} {n : Nat} (H : Ok α n) {c : Int32} (hc : isCellC α 4 c) {e : Nat} (he : e < 6) (hn : isCellC α 4 (nbC α c e)) : sgC α c (nbC α c e) = J e + 10 ∧ frC α c (nbC α c e) = 1 ∧ ¬ c = nbC α c e := by
  obtain ⟨s1, s2, s3, s4⟩ := stp_tab e he
  have rc := row_bd H hc
  have hcol := H.cols; have hrow := H.rows
  have a1 := add_ti (x := rowC α c) (y := rowStep e) (by omega) (by omega)
  have a2 := add_ti (x := colC α c) (y := colStep e) (by omega) (by omega)
  have hnn : ¬ nbC α c e = -1 := fun w => mCell_ (w ▸ hn)
  have hq : 0 ≤ rowC α c + rowStep e ∧ rowC α c + rowStep e < α 4 1 ∧ 0 ≤ colC α c + colStep e ∧ colC α c + colStep e < α 4 0 := by
    apply Classical.byContradiction
    intro w
    apply hnn
    unfold nbC
    rw [if_neg w]
  simp only [i32_le, i32_lt, ti0, a1, a2] at hq
  obtain ⟨p1, p2, p3⟩ := nb_pos H e hc he (by unfold Rw; omega) (by unfold Rw; omega) (by unfold Cl; omega) (by unfold Cl; omega)
  obtain ⟨d1, d2, -, -⟩ := rcd H hc hn
  have x1 : rowC α (nbC α c e) - rowC α c = rowStep e := by rw [i32_eq, d1]; omega
  have x2 : colC α (nbC α c e) - colC α c = colStep e := by rw [i32_eq, d2]; omega
  have f1 : frC α c (nbC α c e) = 1 := by unfold frC; rw [x1, x2]; exact s2
  refine ⟨by unfold sgC; rw [x1, x2]; exact s1, f1, fun w => ?_⟩
  have := (fr_zero H hc hn).mpr w
  rw [f1] at this
  exact absurd this (by decide)
