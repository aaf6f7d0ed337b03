/-! where a cell lies; gunnery -/
theorem ln0_1 : ((0 : Int32) = 1) = False := eq_false (by decide)
theorem ln0_2 : ((0 : Int32) = 2) = False := eq_false (by decide)
theorem ln0_3 : ((0 : Int32) = 3) = False := eq_false (by decide)
theorem ln0_4 : ((0 : Int32) = 4) = False := eq_false (by decide)
theorem ln0_5 : ((0 : Int32) = 5) = False := eq_false (by decide)
theorem ln1_0 : ((1 : Int32) = 0) = False := eq_false (by decide)
theorem ln1_2 : ((1 : Int32) = 2) = False := eq_false (by decide)
theorem ln1_3 : ((1 : Int32) = 3) = False := eq_false (by decide)
theorem ln1_4 : ((1 : Int32) = 4) = False := eq_false (by decide)
theorem ln1_5 : ((1 : Int32) = 5) = False := eq_false (by decide)
theorem ln2_0 : ((2 : Int32) = 0) = False := eq_false (by decide)
theorem ln2_1 : ((2 : Int32) = 1) = False := eq_false (by decide)
theorem ln2_3 : ((2 : Int32) = 3) = False := eq_false (by decide)
theorem ln2_4 : ((2 : Int32) = 4) = False := eq_false (by decide)
theorem ln2_5 : ((2 : Int32) = 5) = False := eq_false (by decide)
theorem ln3_0 : ((3 : Int32) = 0) = False := eq_false (by decide)
theorem ln3_1 : ((3 : Int32) = 1) = False := eq_false (by decide)
theorem ln3_2 : ((3 : Int32) = 2) = False := eq_false (by decide)
theorem ln3_4 : ((3 : Int32) = 4) = False := eq_false (by decide)
theorem ln3_5 : ((3 : Int32) = 5) = False := eq_false (by decide)
theorem ln4_0 : ((4 : Int32) = 0) = False := eq_false (by decide)
theorem ln4_1 : ((4 : Int32) = 1) = False := eq_false (by decide)
theorem ln4_2 : ((4 : Int32) = 2) = False := eq_false (by decide)
theorem ln4_3 : ((4 : Int32) = 3) = False := eq_false (by decide)
theorem ln4_5 : ((4 : Int32) = 5) = False := eq_false (by decide)
theorem ln5_0 : ((5 : Int32) = 0) = False := eq_false (by decide)
theorem ln5_1 : ((5 : Int32) = 1) = False := eq_false (by decide)
theorem ln5_2 : ((5 : Int32) = 2) = False := eq_false (by decide)
theorem ln5_3 : ((5 : Int32) = 3) = False := eq_false (by decide)
theorem ln5_4 : ((5 : Int32) = 4) = False := eq_false (by decide)
theorem tidiv {x y : Int32} (hx : 0 ≤ x.toInt) (hy : 0 < y.toInt) : (x / y).toInt = x.toInt / y.toInt := by
  have h1 := x.toInt_lt
  rw [Int32.toInt_div, Int.tdiv_eq_ediv_of_nonneg hx]
  have h2 : 0 ≤ x.toInt / y.toInt := Int.ediv_nonneg hx (by omega)
  have h3 : x.toInt / y.toInt ≤ x.toInt := Int.ediv_le_self _ hx
  exact Int.bmod_eq_of_le (by omega) (by omega)
theorem mul_ti {x y : Int32} (h : -2147483648 ≤ x.toInt * y.toInt) (h2 : x.toInt * y.toInt ≤ 2147483647) : (x * y).toInt = x.toInt * y.toInt := by
  rw [Int32.toInt_mul]; exact Int.bmod_eq_of_le (by omega) (by omega)
theorem row_bd {α : Mem} {n : Nat} (H : Ok α n) {c : Int32} (hc : isCellC α 4 c) : (rowC α c).toInt = c.toInt / (α 4 0).toInt ∧ 0 ≤ (rowC α c).toInt ∧ (rowC α c).toInt < (α 4 1).toInt ∧ (colC α c).toInt = c.toInt % (α 4 0).toInt ∧ 0 ≤ (colC α c).toInt ∧ (colC α c).toInt < (α 4 0).toInt := by
  have hw := H.wh
  have hp := H.cols
  have h1 := hc.1; have h2 := hc.2.1
  rw [i32_le, ti0] at h1; rw [i32_lt, hw.1] at h2
  have e : (rowC α c).toInt = c.toInt / (α 4 0).toInt := tidiv h1 (by omega)
  have hq : 0 ≤ c.toInt / (α 4 0).toInt := Int.ediv_nonneg h1 (by omega)
  have hq2 : c.toInt / (α 4 0).toInt < (α 4 1).toInt := Int.ediv_lt_of_lt_mul (by omega) (by rw [Int.mul_comm]; exact h2)
  have hm := Int.mul_ediv_add_emod c.toInt (α 4 0).toInt
  have hm1 := Int.emod_nonneg c.toInt (show (α 4 0).toInt ≠ 0 by omega)
  have hm2 := Int.emod_lt_of_pos c.toInt (show 0 < (α 4 0).toInt by omega)
  have e2 : (c / α 4 0 * α 4 0).toInt = c.toInt - c.toInt % (α 4 0).toInt := by
    have e' : (c / α 4 0).toInt = c.toInt / (α 4 0).toInt := e
    have e3 : (c / α 4 0).toInt * (α 4 0).toInt = c.toInt - c.toInt % (α 4 0).toInt := by rw [e', Int.mul_comm]; omega
    rw [mul_ti (by omega) (by omega), e3]
  have e3 : (colC α c).toInt = c.toInt % (α 4 0).toInt := by
    unfold colC
    rw [sub_ti (by omega) (by omega), e2]; omega
  exact ⟨e, by omega, by omega, e3, by omega, by omega⟩
theorem J_sg : ∀ e, e < 6 → J (e + 10) - 10 = J e := by decide
theorem sector_rng (x y : Int32) : ∃ e, e < 6 ∧ sectorC x y = J e := by
  unfold sectorC
  split
  · exact ⟨0, by omega, rfl⟩
  split
  · exact ⟨1, by omega, rfl⟩
  split
  · exact ⟨2, by omega, rfl⟩
  split
  · exact ⟨3, by omega, rfl⟩
  split
  · exact ⟨4, by omega, rfl⟩
  · exact ⟨5, by omega, rfl⟩
theorem sight_rng (x y : Int32) : sightC x y = -1 ∨ ∃ e, e < 6 ∧ (sightC x y = J e ∨ sightC x y = J (e + 10)) := by
  obtain ⟨e, he, h⟩ := sector_rng x y
  unfold sightC
  split
  · exact Or.inl rfl
  · right
    refine ⟨e, he, ?_⟩
    rw [h]
    split
    · right; rw [show (10 : Int32) = J 10 from rfl]; exact (Int32.ofNat_add e 10).symm
    · left; exact Int32.add_zero _
theorem sight_line {x y : Int32} (h : ¬ sightC x y < 10) : ∃ e, e < 6 ∧ sightC x y = J (e + 10) ∧ sightC x y - 10 = J e := by
  rcases sight_rng x y with q | ⟨e, he, q | q⟩
  · rw [q] at h; exact absurd (by decide) h
  · rw [q, i32_lt, J_ti (by omega), show (10 : Int32).toInt = 10 from rfl] at h; omega
  · exact ⟨e, he, q, by rw [q, J_sg e he]⟩
def sgC (α : Mem) (f t : Int32) : Int32 := sightC (rowC α t - rowC α f) (colC α t - colC α f)
def frC (α : Mem) (f t : Int32) : Int32 := farC (rowC α t - rowC α f) (colC α t - colC α f)
def arcC (h s : Int32) : Int32 := if s = -1 then -1 else if fmC (s - s / 10 * 10 - h) = 1 ∨ (fmC (s - s / 10 * 10 - h) = 2 ∧ ¬ s < 10) then 1 else if fmC (s - s / 10 * 10 - h) = 4 ∨ (fmC (s - s / 10 * 10 - h) = 5 ∧ ¬ s < 10) then 0 else -1
theorem abs_ti {x : Int32} (h : -2147483647 ≤ x.toInt) : (absC x).toInt = if 0 ≤ x.toInt then x.toInt else -x.toInt := by
  unfold absC
  simp only [i32_le, ti0]
  split
  · rfl
  · rw [Int32.toInt_neg]; exact Int.bmod_eq_of_le (by have := x.toInt_lt; omega) (by omega)
theorem far_bd {α : Mem} {n : Nat} (H : Ok α n) {f t : Int32} (hf : isCellC α 4 f) (ht : isCellC α 4 t) : ∃ m, m ≤ 24 ∧ frC α f t = J m := by
  have h1 := row_bd H hf; have h2 := row_bd H ht
  have hc := H.cols; have hr := H.rows
  have e1 := sub_ti (x := rowC α t) (y := rowC α f) (by omega) (by omega)
  have e2 := sub_ti (x := colC α t) (y := colC α f) (by omega) (by omega)
  have e3 := add_ti (x := rowC α t - rowC α f) (y := colC α t - colC α f) (by omega) (by omega)
  have a1 := abs_ti (x := rowC α t - rowC α f) (by omega)
  have a2 := abs_ti (x := colC α t - colC α f) (by omega)
  have a3 := abs_ti (x := rowC α t - rowC α f + (colC α t - colC α f)) (by omega)
  have h : 0 ≤ (frC α f t).toInt ∧ (frC α f t).toInt < 25 := by
    unfold frC farC
    rw [mx_ti, mx_ti, a1, a2, a3, e3, e1, e2]
    constructor <;> (repeat' split) <;> omega
  obtain ⟨m, hm, e⟩ := J_rng (k := 25) h.1 h.2
  exact ⟨m, by omega, e⟩
/-- whether a cell that is not free lies among the k next ones -/
def hidF (α : Mem) (n e : Nat) : Nat → Int32 → Bool
  | 0, _ => false
  | k + 1, b => if freeC α n (nbC α b e) then hidF α n e k (nbC α b e) else true
def hidC (α : Mem) (n : Nat) (f t : Int32) : Bool := if sgC α f t < 10 then false else hidF α n (sgC α f t - 10).toNatClampNeg ((frC α f t).toNatClampNeg - 1) f
abbrev rakeC (α : Mem) (i j : Nat) : Prop := ¬ sgC α (α (7 + j) 1) (α (7 + i) 1) < 10 ∧ (fmC (sgC α (α (7 + j) 1) (α (7 + i) 1) - 10 - α (7 + j) 2) = 0 ∨ fmC (sgC α (α (7 + j) 1) (α (7 + i) 1) - 10 - α (7 + j) 2) = 3)
section S29
variable {z : Zr} {α β γ : Mem} {π : Nat → Nat} {η : Int64} {o : Nat → Int64} {od : Nat → UInt64} {n : Nat}
theorem t54 (H : Ok α n) (f t : Int32) : Run 54 0 [some (.ref (4)), some (.int (f)), some (.int (t)), none, none] [] (HC z α π β η o od) = some (.inl (some (.int (frC α f t))), (HC z α π β η o od)) := s54 H f t
theorem t55 (H : Ok α n) (f t : Int32) : Run 55 0 [some (.ref (4)), some (.int (f)), some (.int (t)), none, none, none] [] (HC z α π β η o od) = some (.inl (some (.int (sgC α f t))), (HC z α π β η o od)) := s55 H f t
theorem s11 (h s : Int32) : Run 11 0 [some (.int (h)), some (.int (s)), none, none] [] (HC z α π β η o od) = some (.inl (some (.int (arcC h s))), (HC z α π β η o od)) := by
  simp only [e11_0, e11_1, e11_2, e11_5, e11_6, e11_7, e11_8, e11_10, e11_13, e11_14, e11_17, e11_18, e11_19, e11_20, e11_22, e11_23, e11_24, e11_25, e11_27, e11_30, e11_31, e11_32, e11_33, e11_36, e11_37, e11_38, e11_41, e11_42, e11_45, e11_46, e11_47, e11_48, e11_49, e11_52, e11_53, e11_54, e11_57, e11_58, e11_61, e11_62, e11_63, e11_64, t208, show ¬ (10 : Int32) = 0 by decide, i1_0, aft_v, aft_n, Option.bind_some, rf_some, ck_i, ck_r, ck_n, nb0, nb1, nbi, Nat.reduceAdd, if_true, if_false, not_false_eq_true, not_true_eq_false]
  unfold arcC
  by_cases q0 : s = -1
  · simp only [q0, aft_v, aft_n, Option.bind_some, rf_some, ck_i, ck_r, ck_n, nb0, nb1, nbi, Nat.reduceAdd, if_true, if_false, not_false_eq_true, not_true_eq_false]
  · by_cases q1 : s < 10 <;> by_cases q2 : fmC (s - s / 10 * 10 - h) = 1 <;> by_cases q3 : fmC (s - s / 10 * 10 - h) = 2 <;> by_cases q4 : fmC (s - s / 10 * 10 - h) = 4 <;> by_cases q5 : fmC (s - s / 10 * 10 - h) = 5 <;> simp only [q0, q1, q2, q3, q4, q5, ln0_1, ln0_2, ln0_3, ln0_4, ln0_5, ln1_0, ln1_2, ln1_3, ln1_4, ln1_5, ln2_0, ln2_1, ln2_3, ln2_4, ln2_5, ln3_0, ln3_1, ln3_2, ln3_4, ln3_5, ln4_0, ln4_1, ln4_2, ln4_3, ln4_5, ln5_0, ln5_1, ln5_2, ln5_3, ln5_4, and_true, and_false, true_and, false_and, or_true, true_or, or_false, false_or, aft_v, aft_n, Option.bind_some, rf_some, ck_i, ck_r, ck_n, nb0, nb1, nbi, Nat.reduceAdd, if_true, if_false, not_false_eq_true, not_true_eq_false]
theorem s12_l (H : Ok α n) {e m : Nat} (he : e < 6) (hm : m ≤ 24) (f t : Int32) : ∀ k i b, 1 ≤ i → (m - 1 = k + (i - 1)) → isCellC α 4 b → Run 12 35 [some (.ref (62)), some (.int (f)), some (.int (t)), some (.int (J (e + 10))), some (.int (J m)), some (.int (b)), some (.int (J i))] [] (HC z α π β η o od) = some (.inl (some (.int (bi (hidF α n e k b = true)))), (HC z α π β η o od)) := by
  intro k
  induction k with
  | zero =>
    intro i b hi hk hb
    have hq : m ≤ i := by omega
    simp only [e12_0, e12_1, e12_4, e12_5, e12_6, e12_9, e12_10, e12_11, e12_13, e12_16, e12_17, e12_18, e12_19, e12_22, e12_23, e12_24, e12_27, e12_29, e12_30, e12_32, e12_33, e12_35, e12_37, e12_39, e12_42, e12_43, e12_46, e12_48, e12_49, e12_51, e12_52, e12_55, e12_57, e12_58, e12_61, e12_63, e12_66, e12_69, e12_70, e12_71, e12_74, e12_77, e12_78, J_le (show m < 2147483648 by omega) (show i < 2147483648 by omega), hq, hidF, aft_v, aft_n, Option.bind_some, rf_some, ck_i, ck_r, ck_n, nb0, nb1, nbi, Nat.reduceAdd, if_true, if_false, not_false_eq_true, not_true_eq_false]
    rfl
  | succ k ih =>
    intro i b hi hk hb
    rw [e12_35]
    by_cases hf : freeC α n (nbC α b e)
    · have hh : hidF α n e (k + 1) b = hidF α n e k (nbC α b e) := if_pos hf
      simp only [e12_0, e12_1, e12_4, e12_5, e12_6, e12_9, e12_10, e12_11, e12_13, e12_16, e12_17, e12_18, e12_19, e12_22, e12_23, e12_24, e12_27, e12_29, e12_30, e12_32, e12_33, e12_37, e12_39, e12_42, e12_43, e12_46, e12_48, e12_49, e12_51, e12_52, e12_55, e12_57, e12_58, e12_61, e12_63, e12_66, e12_69, e12_70, e12_71, e12_74, e12_77, e12_78, J_le (show m < 2147483648 by omega) (show i < 2147483648 by omega), show ¬ m ≤ i by omega, gf2_0 kd62, isO4, J_sg e he, s53 H hb he, s51 H, bi_t hf, J_succ, ih (i + 1) (nbC α b e) (by omega) (by omega) hf.1, i1_0, hh, aft_v, aft_n, Option.bind_some, rf_some, ck_i, ck_r, ck_n, nb0, nb1, nbi, Nat.reduceAdd, if_true, if_false, not_false_eq_true, not_true_eq_false]
    · have hh : hidF α n e (k + 1) b = true := if_neg hf
      simp only [e12_0, e12_1, e12_4, e12_5, e12_6, e12_9, e12_10, e12_11, e12_13, e12_16, e12_17, e12_18, e12_19, e12_22, e12_23, e12_24, e12_27, e12_29, e12_30, e12_32, e12_33, e12_37, e12_39, e12_42, e12_43, e12_46, e12_48, e12_49, e12_51, e12_52, e12_55, e12_57, e12_58, e12_61, e12_63, e12_66, e12_69, e12_70, e12_71, e12_74, e12_77, e12_78, J_le (show m < 2147483648 by omega) (show i < 2147483648 by omega), show ¬ m ≤ i by omega, gf2_0 kd62, isO4, J_sg e he, s53 H hb he, s51 H, bi_f hf, hh, aft_v, aft_n, Option.bind_some, rf_some, ck_i, ck_r, ck_n, nb0, nb1, nbi, Nat.reduceAdd, if_true, if_false, not_false_eq_true, not_true_eq_false]
      rfl
theorem s12 (H : Ok α n) {f t : Int32} (hf : isCellC α 4 f) (ht : isCellC α 4 t) : Run 12 0 [some (.ref (62)), some (.int (f)), some (.int (t)), none, none, none, none] [] (HC z α π β η o od) = some (.inl (some (.int (bi (hidC α n f t = true)))), (HC z α π β η o od)) := by
  unfold hidC
  by_cases hl : sgC α f t < 10
  · simp only [e12_0, e12_1, e12_4, e12_5, e12_6, e12_9, e12_10, e12_11, e12_13, e12_16, e12_17, e12_18, e12_19, e12_22, e12_23, e12_24, e12_27, e12_29, e12_30, e12_32, e12_33, e12_35, e12_37, e12_39, e12_42, e12_43, e12_46, e12_48, e12_49, e12_51, e12_52, e12_55, e12_57, e12_58, e12_61, e12_63, e12_66, e12_69, e12_70, e12_71, e12_74, e12_77, e12_78, gf2_0 kd62, isO4, t55 H, hl, le_not, aft_v, aft_n, Option.bind_some, rf_some, ck_i, ck_r, ck_n, nb0, nb1, nbi, Nat.reduceAdd, if_true, if_false, not_false_eq_true, not_true_eq_false]
    rfl
  · obtain ⟨e, he, h1, h2⟩ := sight_line (x := rowC α t - rowC α f) (y := colC α t - colC α f) hl
    obtain ⟨m, hm, h3⟩ := far_bd H hf ht
    have h1' : sgC α f t = J (e + 10) := h1
    have hl' : ¬ J (e + 10) < 10 := by rw [← h1']; exact hl
    have h4 : (1 : Int32) = J 1 := rfl
    rw [if_neg hl, h3, h1', J_sg e he, J_tn (show m < 2147483648 by omega), J_tn (show e < 2147483648 by omega)]
    rw [← s12_l H he hm f t (m - 1) 1 f (by omega) (by omega) hf]
    simp only [e12_0, e12_1, e12_4, e12_5, e12_6, e12_9, e12_10, e12_11, e12_13, e12_16, e12_17, e12_18, e12_19, e12_22, e12_23, e12_24, e12_27, e12_29, e12_30, e12_32, e12_33, e12_37, e12_39, e12_42, e12_43, e12_46, e12_48, e12_49, e12_51, e12_52, e12_55, e12_57, e12_58, e12_61, e12_63, e12_66, e12_69, e12_70, e12_71, e12_74, e12_77, e12_78, gf2_0 kd62, isO4, t55 H, t54 H, h1', h3, hl', le_not, h4, aft_v, aft_n, Option.bind_some, rf_some, ck_i, ck_r, ck_n, nb0, nb1, nbi, Nat.reduceAdd, if_true, if_false, not_false_eq_true, not_true_eq_false]
theorem s13 (H : Ok α n) {i j : Nat} (hi : i < n) (hj : j < n) : Run 13 0 [some (.ref (62)), some (.ref (7 + i)), some (.ref (7 + j)), none, none] [] (HC z α π β η o od) = some (.inl (some (.int (bi (rakeC α i j)))), (HC z α π β η o od)) := by
  have h8 := H.n8
  unfold rakeC bi
  simp only [e13_0, e13_1, e13_4, e13_5, e13_8, e13_9, e13_12, e13_15, e13_16, e13_17, e13_19, e13_22, e13_23, e13_24, e13_25, e13_27, e13_28, e13_29, e13_32, e13_33, e13_35, e13_38, e13_40, e13_42, e13_45, e13_47, e13_48, e13_51, e13_52, e13_55, e13_56, gf2_0 kd62, isO4, gf7_1 (kd_ship (show i < 8 by omega)), gf7_1 (kd_ship (show j < 8 by omega)), gf7_2 (kd_ship (show j < 8 by omega)), t55 H, t208, le_not, aft_v, aft_n, Option.bind_some, rf_some, ck_i, ck_r, ck_n, nb0, nb1, nbi, Nat.reduceAdd, if_true, if_false, not_false_eq_true, not_true_eq_false]
  by_cases q1 : sgC α (α (7 + j) 1) (α (7 + i) 1) < 10 <;> by_cases q2 : fmC (sgC α (α (7 + j) 1) (α (7 + i) 1) - 10 - α (7 + j) 2) = 0 <;> by_cases q3 : fmC (sgC α (α (7 + j) 1) (α (7 + i) 1) - 10 - α (7 + j) 2) = 3 <;> simp only [q1, q2, q3, ln0_1, ln0_2, ln0_3, ln0_4, ln0_5, ln1_0, ln1_2, ln1_3, ln1_4, ln1_5, ln2_0, ln2_1, ln2_3, ln2_4, ln2_5, ln3_0, ln3_1, ln3_2, ln3_4, ln3_5, ln4_0, ln4_1, ln4_2, ln4_3, ln4_5, ln5_0, ln5_1, ln5_2, ln5_3, ln5_4, and_true, and_false, true_and, false_and, or_true, true_or, or_false, false_or, aft_v, aft_n, Option.bind_some, rf_some, ck_i, ck_r, ck_n, nb0, nb1, nbi, Nat.reduceAdd, if_true, if_false, not_false_eq_true, not_true_eq_false]
end S29
