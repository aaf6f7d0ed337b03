/-! the model: letting go, losing -/
theorem up2_same {α : Mem} {a k : Nat} {v : Int32} (h : α a k = v) : up2 α a k v = α := by
  funext j m
  by_cases q : j = a
  · subst q
    rw [up2_a]
    by_cases w : m = k
    · rw [if_pos w, w, h]
    · rw [if_neg w]
  · rw [up2_ne _ q]
section S46
variable {z : Zr} {α β γ : Mem} {π : Nat → Nat} {η : Int64} {o : Nat → Int64} {od : Nat → UInt64} {n k : Nat}
theorem s117 : Run 117 0 [some (.ref (70))] [] (HC z γ π β η o od) = some (.inl (some (.int (β 70 5))), (HC z γ π β η o od)) := by
  simp only [e117_0, e117_1, e117_4, gf9_5 kd_70, aft_v, aft_n, Option.bind_some, rf_some, ck_i, ck_r, ck_n, nb0, nb1, nbi, Nat.reduceAdd, if_true, if_false, not_false_eq_true, not_true_eq_false]
theorem s174 (H : Ok α n) (R : Rm (β 71) α n) {i : Nat} (hi : i < n) : ∃ β', Run 174 0 [some (.ref (70)), some (.int (J i))] [] (HC z γ π β η o od) = some (.inl none, (HC z γ π β' η o od)) ∧ Rm (β' 71) (looseC α (7 + i)) n ∧ Md β β' := by
  have h8 := H.n8
  have hi8 : i < 8 := by omega
  rcases H.pt hi with hp | ⟨j, hj, hp⟩
  · refine ⟨β, ?_, ?_, Md_r β⟩
    · simp only [↓reduceIte, e174_0, e174_1, e174_2, e174_4, e174_7, e174_8, e174_11, e174_12, e174_13, e174_14, e174_16, e174_19, e174_21, e174_22, e174_25, e174_26, e174_27, e174_29, e174_30, e174_33, isO70, s125_11 R h8 hi, hp, aft_v, aft_n, Option.bind_some, rf_some, ck_i, ck_r, ck_n, nb0, nb1, nbi, Nat.reduceAdd, if_true, if_false, not_false_eq_true, not_true_eq_false]
    · unfold looseC
      rw [if_pos hp, up2_same hp]
      exact R
  · have R1 := Rm_up R (show j < 8 by omega) (k := 11) (by decide) (-1)
    have R2 := Rm_up R1 hi8 (k := 11) (by decide) (-1)
    refine ⟨_, ?_, ?_, Md_up (Md_up (Md_r β) (6 + 15 * j + 11) (-1)) (6 + 15 * i + 11) (-1)⟩
    · simp only [↓reduceIte, e174_0, e174_1, e174_2, e174_4, e174_7, e174_8, e174_11, e174_12, e174_13, e174_14, e174_16, e174_19, e174_21, e174_22, e174_25, e174_26, e174_27, e174_29, e174_30, e174_33, isO70, s125_11 R h8 hi, hp, Jm1 (show j < 2147483648 by omega), s126_11 (show j < 8 by omega), s126_11 hi8, aft_v, aft_n, Option.bind_some, rf_some, ck_i, ck_r, ck_n, nb0, nb1, nbi, Nat.reduceAdd, if_true, if_false, not_false_eq_true, not_true_eq_false]
    · unfold looseC
      rw [if_neg (by rw [hp]; exact Jm1 (by omega)), hp, J_tn (by omega)]
      exact R2
end S46
