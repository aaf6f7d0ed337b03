/-! force, shots, grapples, boarding, orders -/
abbrev canFC (α : Mem) (n i : Nat) (r : Int32) (j : Nat) : Prop := (0 < α (7 + i) 3 ∧ 0 < α (7 + j) 3 ∧ ¬ α (7 + i) 0 = α (7 + j) 0) ∧ ¬ 6 < frC α (α (7 + i) 1) (α (7 + j) 1) ∧ arcC (α (7 + i) 2) (sgC α (α (7 + i) 1) (α (7 + j) 1)) = r ∧ ¬ hidC α n (α (7 + i) 1) (α (7 + j) 1) = true
def baseC (α : Mem) (i : Nat) (r : Int32) (j : Nat) : Int32 := (if r = 0 then α (7 + i) 5 else α (7 + i) 6) * (7 - frC α (α (7 + i) 1) (α (7 + j) 1))
def forceC (α : Mem) (n i : Nat) (r : Int32) (j : Nat) : Int32 := if canFC α n i r j then (if rakeC α i j then 2 * baseC α i r j else baseC α i r j) else 0
theorem ti7 : (7 : Int32).toInt = 7 := rfl
theorem ti2 : (2 : Int32).toInt = 2 := rfl
theorem base_tab : ∀ g, g < 13 → ∀ m, m < 7 → 0 ≤ (J g * (7 - J m)).toInt ∧ (J g * (7 - J m)).toInt ≤ 84 ∧ 0 ≤ (2 * (J g * (7 - J m))).toInt ∧ (2 * (J g * (7 - J m))).toInt ≤ 168 := by decide +kernel
theorem force_bd {α : Mem} {n : Nat} (H : Ok α n) {i j : Nat} (hi : i < n) (hj : j < n) (r : Int32) : 0 ≤ (forceC α n i r j).toInt ∧ (forceC α n i r j).toInt ≤ 168 := by
  unfold forceC
  split
  · next q =>
    obtain ⟨m, hm, e⟩ := far_bd H (H.isC hi) (H.isC hj)
    have h6 := q.2.1
    rw [e, show (6 : Int32) = J 6 from rfl, J_lt (by omega) (by omega)] at h6
    have hg : ∃ g, g < 13 ∧ (if r = 0 then α (7 + i) 5 else α (7 + i) 6) = J g := by
      split
      · exact J_rng (H.gl i hi).1 (by have := (H.gl i hi).2; omega)
      · exact J_rng (H.gr i hi).1 (by have := (H.gr i hi).2; omega)
    obtain ⟨g, hg, eg⟩ := hg
    have := base_tab g hg m (by omega)
    unfold baseC
    rw [eg, e]
    split <;> omega
  · rw [ti0]; omega
section S30
variable {z : Zr} {α β γ : Mem} {π : Nat → Nat} {η : Int64} {o : Nat → Int64} {od : Nat → UInt64} {n : Nat}
theorem s14 (H : Ok α n) {i j : Nat} (hi : i < n) (hj : j < n) {r : Int32} (hr : r = 0 ∨ r = 1) : Run 14 0 [some (.ref (62)), some (.ref (7 + i)), some (.int (r)), some (.ref (7 + j)), none, none, none] [] (HC z α π β η o od) = some (.inl (some (.int (forceC α n i r j))), (HC z α π β η o od)) := by
  have h8 := H.n8
  have ki := kd_ship (show i < 8 by omega)
  have kj := kd_ship (show j < 8 by omega)
  have hh : Run 12 0 [some (.ref (62)), some (.int (α (7 + i) 1)), some (.int (α (7 + j) 1)), none, none, none, none] [] (HC z α π β η o od) = _ := s12 H (H.isC hi) (H.isC hj)
  have hrk : Run 13 0 [some (.ref (62)), some (.ref (7 + i)), some (.ref (7 + j)), none, none] [] (HC z α π β η o od) = _ := s13 H hi hj
  unfold forceC baseC
  by_cases q5 : hidC α n (α (7 + i) 1) (α (7 + j) 1) = true <;> by_cases q6 : rakeC α i j
  all_goals first | rw [bi_t q5] at hh | rw [bi_f q5] at hh
  all_goals first | rw [bi_t q6] at hrk | rw [bi_f q6] at hrk
  all_goals rcases hr with rfl | rfl
  all_goals simp only [e14_0, e14_1, e14_4, e14_7, e14_8, e14_11, e14_14, e14_15, e14_18, e14_19, e14_22, e14_25, e14_26, e14_27, e14_28, e14_31, e14_32, e14_35, e14_36, e14_39, e14_42, e14_44, e14_45, e14_48, e14_49, e14_52, e14_53, e14_56, e14_57, e14_60, e14_63, e14_66, e14_68, e14_70, e14_72, e14_75, e14_77, e14_78, e14_81, e14_82, e14_85, e14_86, e14_89, e14_90, e14_91, e14_94, e14_95, e14_98, e14_101, e14_104, e14_105, e14_106, e14_107, e14_108, e14_111, e14_113, e14_115, e14_116, e14_117, e14_119, e14_120, e14_121, e14_122, e14_125, e14_128, e14_129, e14_131, e14_132, e14_135, e14_137, gf2_0 kd62, isO4, isO62, isS (show i < 8 by omega), isS (show j < 8 by omega), s73 ki, s73 kj, gf7_0 ki, gf7_0 kj, gf7_1 ki, gf7_1 kj, gf7_2 ki, t54 H, t55 H, s11, hh, hrk, s78 ki (Or.inl rfl), s78 ki (Or.inr rfl), bi0, i1_0, aft_v, aft_n, Option.bind_some, rf_some, ck_i, ck_r, ck_n, nb0, nb1, nbi, Nat.reduceAdd, if_true, if_false, not_false_eq_true, not_true_eq_false]
  all_goals by_cases q1 : 0 < α (7 + i) 3 <;> by_cases q2 : 0 < α (7 + j) 3 <;> by_cases q3 : α (7 + i) 0 = α (7 + j) 0 <;> by_cases q4 : 6 < frC α (α (7 + i) 1) (α (7 + j) 1)
  all_goals by_cases q7 : arcC (α (7 + i) 2) (sgC α (α (7 + i) 1) (α (7 + j) 1)) = 0 <;> by_cases q8 : arcC (α (7 + i) 2) (sgC α (α (7 + i) 1) (α (7 + j) 1)) = 1 <;> simp only [canFC, q1, q2, q3, q4, q5, q7, q8, and_true, and_false, true_and, false_and, Bool.false_eq_true, ln0_1, ln0_2, ln0_3, ln0_4, ln0_5, ln1_0, ln1_2, ln1_3, ln1_4, ln1_5, ln2_0, ln2_1, ln2_3, ln2_4, ln2_5, ln3_0, ln3_1, ln3_2, ln3_4, ln3_5, ln4_0, ln4_1, ln4_2, ln4_3, ln4_5, ln5_0, ln5_1, ln5_2, ln5_3, ln5_4, aft_v, aft_n, Option.bind_some, rf_some, ck_i, ck_r, ck_n, nb0, nb1, nbi, Nat.reduceAdd, if_true, if_false, not_false_eq_true, not_true_eq_false]
  all_goals first | rw [if_pos q6] | rw [if_neg q6]
abbrev canShootC (α : Mem) (n i : Nat) (r : Int32) (j : Nat) (aim : Int32) : Prop := ¬ 0 < (if r = 0 then α (7 + i) 10 else α (7 + i) 11) ∧ 0 < forceC α n i r j ∧ (¬ aim = 2 ∨ ¬ 2 < frC α (α (7 + i) 1) (α (7 + j) 1))
theorem s15 (H : Ok α n) {i j : Nat} (hi : i < n) (hj : j < n) {r : Int32} (hr : r = 0 ∨ r = 1) (aim : Int32) : Run 15 0 [some (.ref (62)), some (.ref (7 + i)), some (.int (r)), some (.ref (7 + j)), some (.int (aim))] [] (HC z α π β η o od) = some (.inl (some (.int (bi (canShootC α n i r j aim)))), (HC z α π β η o od)) := by
  have h8 := H.n8
  have ki := kd_ship (show i < 8 by omega)
  have kj := kd_ship (show j < 8 by omega)
  have hf : Run 14 0 [some (.ref (62)), some (.ref (7 + i)), some (.int (r)), some (.ref (7 + j)), none, none, none] [] (HC z α π β η o od) = _ := s14 H hi hj hr
  unfold canShootC bi
  simp only [e15_0, e15_1, e15_2, e15_5, e15_8, e15_9, e15_10, e15_11, e15_12, e15_15, e15_18, e15_19, e15_20, e15_22, e15_23, e15_26, e15_27, e15_30, e15_31, e15_34, e15_35, e15_38, e15_41, e15_42, e15_45, e15_46, e15_49, e15_50, gf2_0 kd62, isO4, isO62, isS (show i < 8 by omega), isS (show j < 8 by omega), s79 ki hr, hf, gf7_1 ki, gf7_1 kj, t54 H, aft_v, aft_n, Option.bind_some, rf_some, ck_i, ck_r, ck_n, nb0, nb1, nbi, Nat.reduceAdd, if_true, if_false, not_false_eq_true, not_true_eq_false]
  by_cases q1 : 0 < (if r = 0 then α (7 + i) 10 else α (7 + i) 11) <;> by_cases q2 : 0 < forceC α n i r j <;> by_cases q3 : aim = 2 <;> by_cases q4 : 2 < frC α (α (7 + i) 1) (α (7 + j) 1) <;> simp only [q1, q2, q3, q4, and_true, and_false, true_and, false_and, or_true, true_or, or_false, false_or, aft_v, aft_n, Option.bind_some, rf_some, ck_i, ck_r, ck_n, nb0, nb1, nbi, Nat.reduceAdd, if_true, if_false, not_false_eq_true, not_true_eq_false]
abbrev canTieC (α : Mem) (i j : Nat) : Prop := 0 < α (7 + i) 3 ∧ 0 < α (7 + j) 3 ∧ ¬ α (7 + i) 0 = α (7 + j) 0 ∧ α (7 + i) 12 = -1 ∧ α (7 + j) 12 = -1 ∧ frC α (α (7 + i) 1) (α (7 + j) 1) = 1
theorem s7 (H : Ok α n) {i j : Nat} (hi : i < n) (hj : j < n) : Run 7 0 [some (.ref (63)), some (.ref (7 + i)), some (.ref (7 + j))] [] (HC z α π β η o od) = some (.inl (some (.int (bi (canTieC α i j)))), (HC z α π β η o od)) := by
  have h8 := H.n8
  have ki := kd_ship (show i < 8 by omega)
  have kj := kd_ship (show j < 8 by omega)
  unfold canTieC bi
  simp only [e7_0, e7_1, e7_4, e7_7, e7_8, e7_11, e7_14, e7_15, e7_18, e7_19, e7_22, e7_25, e7_26, e7_29, e7_32, e7_33, e7_36, e7_39, e7_40, e7_43, e7_44, e7_47, e7_48, e7_51, e7_54, e7_55, e7_58, e7_59, e7_62, e7_63, gf1_0 kd63, isO4, isS (show i < 8 by omega), isS (show j < 8 by omega), s73 ki, s73 kj, s74 ki, s74 kj, gf7_0 ki, gf7_0 kj, gf7_1 ki, gf7_1 kj, t54 H, bi0, aft_v, aft_n, Option.bind_some, rf_some, ck_i, ck_r, ck_n, nb0, nb1, nbi, Nat.reduceAdd, if_true, if_false, not_false_eq_true, not_true_eq_false]
  by_cases q1 : 0 < α (7 + i) 3 <;> by_cases q2 : 0 < α (7 + j) 3 <;> by_cases q3 : α (7 + i) 0 = α (7 + j) 0 <;> by_cases q4 : α (7 + i) 12 = -1 <;> by_cases q5 : α (7 + j) 12 = -1 <;> by_cases q6 : frC α (α (7 + i) 1) (α (7 + j) 1) = 1 <;> simp only [q1, q2, q3, q4, q5, q6, and_true, and_false, true_and, false_and, aft_v, aft_n, Option.bind_some, rf_some, ck_i, ck_r, ck_n, nb0, nb1, nbi, Nat.reduceAdd, if_true, if_false, not_false_eq_true, not_true_eq_false]
end S30
