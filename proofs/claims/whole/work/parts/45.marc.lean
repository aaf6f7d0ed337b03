/-! the model: arcs -/
theorem arc_tab : ∀ h, h < 6 → ∀ e, e < 6 → (J e - J e / 10 * 10 - J h + 6 - (J e - J e / 10 * 10 - J h + 6) / 6 * 6 = fmC (J e - J e / 10 * 10 - J h)) ∧ (J (e + 10) - J (e + 10) / 10 * 10 - J h + 6 - (J (e + 10) - J (e + 10) / 10 * 10 - J h + 6) / 6 * 6 = fmC (J (e + 10) - J (e + 10) / 10 * 10 - J h)) := by decide +kernel
theorem q10 : ¬ (10 : Int32) = 0 := by decide
section S45
variable {z : Zr} {α β γ : Mem} {π : Nat → Nat} {η : Int64} {o : Nat → Int64} {od : Nat → UInt64} {n k : Nat}
theorem s138 (H : Ok α n) (R : Rm (β 71) α n) {i : Nat} (hi : i < n) {t : Int32} (ht : isCellC α 4 t) (hs : ¬ sgC α (α (7 + i) 1) t = -1) : Run 138 0 [some (.ref (70)), some (.int (J i)), some (.int (t)), none, none, none] [] (HC z γ π β η o od) = some (.inl (some (.int (arcC (α (7 + i) 2) (sgC α (α (7 + i) 1) t)))), (HC z γ π β η o od)) := by
  have h8 := H.n8
  have hd := H.hdJ hi
  have hb : Run 137 0 [some (.ref (70)), some (.int (α (7 + i) 1)), some (.int (t)), none, none, none, none, none, none, none] [] (HC z γ π β η o od) = _ := s137 H R (H.isC hi) ht
  have hf : sgC α (α (7 + i) 1) t - sgC α (α (7 + i) 1) t / 10 * 10 - α (7 + i) 2 + 6 - (sgC α (α (7 + i) 1) t - sgC α (α (7 + i) 1) t / 10 * 10 - α (7 + i) 2 + 6) / 6 * 6 = fmC (sgC α (α (7 + i) 1) t - sgC α (α (7 + i) 1) t / 10 * 10 - α (7 + i) 2) := by
    rw [hd.2]
    rcases sight_rng (rowC α t - rowC α (α (7 + i) 1)) (colC α t - colC α (α (7 + i) 1)) with q | ⟨e, he, q | q⟩
    · exact absurd q hs
    · have q' : sgC α (α (7 + i) 1) t = J e := q
      rw [q']; exact (arc_tab _ hd.1 e he).1
    · have q' : sgC α (α (7 + i) 1) t = J (e + 10) := q
      rw [q']; exact (arc_tab _ hd.1 e he).2
  simp only [↓reduceIte, e138_0, e138_1, e138_2, e138_3, e138_4, e138_7, e138_8, e138_11, e138_12, e138_13, e138_15, e138_16, e138_17, e138_18, e138_19, e138_22, e138_23, e138_25, e138_26, e138_28, e138_29, e138_31, e138_32, e138_34, e138_37, e138_38, e138_41, e138_42, e138_44, e138_46, e138_47, e138_50, e138_52, e138_53, e138_56, e138_58, e138_61, e138_62, e138_65, e138_67, e138_68, e138_71, e138_73, e138_74, e138_77, e138_79, e138_82, e138_83, e138_86, e138_87, isO70, s125_1 R h8 hi, s125_2 R h8 hi, hb, q10, q6, hf, i1_0, aft_v, aft_n, Option.bind_some, rf_some, ck_i, ck_r, ck_n, nb0, nb1, nbi, Nat.reduceAdd, if_true, if_false, not_false_eq_true, not_true_eq_false]
  unfold arcC
  rw [if_neg hs]
  by_cases q1 : sgC α (α (7 + i) 1) t < 10 <;> by_cases q2 : fmC (sgC α (α (7 + i) 1) t - sgC α (α (7 + i) 1) t / 10 * 10 - α (7 + i) 2) = 1 <;> by_cases q3 : fmC (sgC α (α (7 + i) 1) t - sgC α (α (7 + i) 1) t / 10 * 10 - α (7 + i) 2) = 2 <;> by_cases q4 : fmC (sgC α (α (7 + i) 1) t - sgC α (α (7 + i) 1) t / 10 * 10 - α (7 + i) 2) = 4 <;> by_cases q5 : fmC (sgC α (α (7 + i) 1) t - sgC α (α (7 + i) 1) t / 10 * 10 - α (7 + i) 2) = 5 <;> simp only [q1, q2, q3, q4, q5, ln0_1, ln0_2, ln0_3, ln0_4, ln0_5, ln1_0, ln1_2, ln1_3, ln1_4, ln1_5, ln2_0, ln2_1, ln2_3, ln2_4, ln2_5, ln3_0, ln3_1, ln3_2, ln3_4, ln3_5, ln4_0, ln4_1, ln4_2, ln4_3, ln4_5, ln5_0, ln5_1, ln5_2, ln5_3, ln5_4, and_true, and_false, true_and, false_and, or_true, true_or, or_false, false_or, aft_v, aft_n, Option.bind_some, rf_some, ck_i, ck_r, ck_n, nb0, nb1, nbi, Nat.reduceAdd, if_true, if_false, not_false_eq_true, not_true_eq_false]
end S45
