/-! the model: going ahead, turning -/
theorem nb_cell {α : Mem} {n : Nat} (H : Ok α n) (c : Int32) (e : Nat) : nbC α c e = -1 ∨ isCellC α 4 (nbC α c e) := by
  unfold nbC
  split
  · next h =>
    right
    obtain ⟨h1, h2, h3, h4⟩ := h
    rw [i32_le, ti0] at h1 h3
    rw [i32_lt] at h2 h4
    have hw := H.wh; have hc := H.cols; have hr := H.rows
    have m1 : (rowC α c + rowStep e).toInt * (α 4 0).toInt ≤ ((α 4 1).toInt - 1) * (α 4 0).toInt := Int.mul_le_mul_of_nonneg_right (by omega) (by omega)
    have m0 : 0 ≤ (rowC α c + rowStep e).toInt * (α 4 0).toInt := Int.mul_nonneg h1 (by omega)
    rw [Int.sub_mul, Int.one_mul, Int.mul_comm (α 4 1).toInt] at m1
    have e1 := mul_ti (x := rowC α c + rowStep e) (y := α 4 0) (by omega) (by omega)
    have e2 := add_ti (x := (rowC α c + rowStep e) * α 4 0) (y := colC α c + colStep e) (by omega) (by omega)
    refine ⟨?_, ?_, ?_⟩
    · rw [i32_le, ti0, e2, e1]; omega
    · rw [i32_lt, hw.1, e2, e1]; omega
    · rw [i32_lt, ti144, e2, e1]; omega
  · left; rfl
section S41
variable {z : Zr} {α β γ : Mem} {π : Nat → Nat} {η : Int64} {o : Nat → Int64} {od : Nat → UInt64} {n k : Nat}
theorem s149_l (H : Ok α n) (R : Rm (β 71) α n) (s : Int32) : ∀ k i v, i + k = n → Run 149 4 [some (.ref (70)), some (.int (s)), some (.int (v)), some (.int (J i))] [] (HC z γ π β η o od) = some (.inl (some (.int (cntF (fun i => 0 < α (7 + i) 3 ∧ α (7 + i) 0 = s) k i v))), (HC z γ π β η o od)) := by
  have h8 := H.n8
  intro k
  induction k with
  | zero =>
    intro i v hi
    simp only [↓reduceIte, e149_0, e149_1, e149_2, e149_3, e149_4, e149_5, e149_6, e149_9, e149_10, e149_11, e149_14, e149_15, e149_16, e149_17, e149_18, e149_21, e149_22, e149_25, e149_26, e149_27, e149_30, e149_33, e149_34, e149_37, e149_38, e149_39, e149_40, e149_43, e149_46, e149_47, gf9_0 kd_70, m71_5 R, H.hn, J_le (show n < 2147483648 by omega) (show i < 2147483648 by omega), show n ≤ i by omega, cntF, aft_v, aft_n, Option.bind_some, rf_some, ck_i, ck_r, ck_n, nb0, nb1, nbi, Nat.reduceAdd, if_true, if_false, not_false_eq_true, not_true_eq_false]
  | succ k ih =>
    intro i v hi
    rw [e149_4]
    simp only [cntF]
    rw [← ih (i + 1) _ (by omega)]
    by_cases hc : 0 < α (7 + i) 3 <;> by_cases hc2 : α (7 + i) 0 = s <;> simp only [↓reduceIte, e149_0, e149_1, e149_2, e149_3, e149_5, e149_6, e149_9, e149_10, e149_11, e149_14, e149_15, e149_16, e149_17, e149_18, e149_21, e149_22, e149_25, e149_26, e149_27, e149_30, e149_33, e149_34, e149_37, e149_38, e149_39, e149_40, e149_43, e149_46, e149_47, gf9_0 kd_70, isO70, m71_5 R, H.hn, J_le (show n < 2147483648 by omega) (show i < 2147483648 by omega), show ¬ n ≤ i by omega, s125_0 R h8 (show i < n by omega), s127 R h8 (show i < n by omega), bi0, hc, hc2, J_succ, Int32.add_zero, and_true, and_false, true_and, false_and, aft_v, aft_n, Option.bind_some, rf_some, ck_i, ck_r, ck_n, nb0, nb1, nbi, Nat.reduceAdd, if_true, if_false, not_false_eq_true, not_true_eq_false]
theorem s149 (H : Ok α n) (R : Rm (β 71) α n) (s : Int32) : Run 149 0 [some (.ref (70)), some (.int (s)), none, none] [] (HC z γ π β η o od) = some (.inl (some (.int (cntF (fun i => 0 < α (7 + i) 3 ∧ α (7 + i) 0 = s) n 0 0))), (HC z γ π β η o od)) := by
  rw [← s149_l H R s n 0 0 (by omega)]
  simp only [e149_0, e149_1, e149_2, e149_3, show J 0 = (0 : Int32) from rfl, aft_v, aft_n, Option.bind_some, rf_some, ck_i, ck_r, ck_n, nb0, nb1, nbi, Nat.reduceAdd, if_true, if_false, not_false_eq_true, not_true_eq_false]
theorem angJ3 {a b : Nat} (ha : a < 6) (hb : b < 6) : ((3 : Int32) ≤ J (angN a b)) = (angN a b = 3) := by
  have := ang_le a ha b hb
  rw [J3, J_le (by omega) (by omega)]
  exact propext ⟨fun _ => by omega, fun _ => by omega⟩
theorem s159 (H : Ok α n) (R : Rm (β 71) α n) {i : Nat} (hi : i < n) : Run 159 0 [some (.ref (70)), some (.int (J i)), none] [] (HC z γ π β η o od) = some (.inl (some (.int (if canMoveC α n i then 0 else 2))), (HC z γ π β η o od)) := by
  have h8 := H.n8
  have hd := H.hdJ hi
  have hs := isShip_J H.hn h8 hi
  have hc := H.isC hi
  have e1 : Run 143 0 [some (.int (α (7 + i) 2)), some (.int (α 4 2)), none] [] (HC z γ π β η o od) = some (.inl (some (.int (J (angN (hdA α (7 + i)) (wdN α))))), (HC z γ π β η o od)) := by rw [hd.2, H.wdJ.2]; exact s143 hd.1 H.wdJ.1
  have e2 : Run 130 0 [some (.ref (70)), some (.int (α (7 + i) 1)), some (.int (α (7 + i) 2)), none, none] [] (HC z γ π β η o od) = some (.inl (some (.int (nbC α (α (7 + i) 1) (hdA α (7 + i))))), (HC z γ π β η o od)) := by rw [hd.2]; exact s130 H R hd.1
  simp only [↓reduceIte, e159_0, e159_1, e159_2, e159_5, e159_8, e159_9, e159_10, e159_11, e159_12, e159_15, e159_18, e159_19, e159_20, e159_21, e159_24, e159_25, e159_28, e159_29, e159_30, e159_33, e159_34, e159_37, e159_38, e159_39, e159_40, e159_41, e159_42, e159_45, e159_46, e159_47, e159_48, e159_51, e159_54, e159_57, e159_60, e159_61, e159_64, e159_65, e159_66, e159_67, e159_70, e159_71, e159_74, e159_75, gf9_0 kd_70, isO70, s124 H R, bi_t hs, s158 R h8 hi, s125_1 R h8 hi, s125_2 R h8 hi, m71_2 R, e1, e2, s133 H R (nb_cell H _ _), angJ3 hd.1 H.wdJ.1, bi0, i1_0, aft_v, aft_n, Option.bind_some, rf_some, ck_i, ck_r, ck_n, nb0, nb1, nbi, Nat.reduceAdd, if_true, if_false, not_false_eq_true, not_true_eq_false]
  by_cases h1 : canSailC α (7 + i)
  · by_cases h2 : angN (hdA α (7 + i)) (wdN α) = 3
    · rw [if_neg (fun q => q h1), if_pos h2, if_neg (fun q : canMoveC α n i => q.2.1 h2)]
    · by_cases h3 : freeC α n (nbC α (α (7 + i) 1) (hdA α (7 + i)))
      · rw [if_neg (fun q => q h1), if_neg h2, if_neg (fun q => q h3), if_pos (show canMoveC α n i from ⟨h1, h2, h3⟩)]
      · rw [if_neg (fun q => q h1), if_neg h2, if_pos h3, if_neg (fun q : canMoveC α n i => h3 q.2.2)]
  · rw [if_pos h1, if_neg (fun q : canMoveC α n i => h1 q.1)]
theorem s159n (H : Ok α n) (R : Rm (β 71) α n) {c : Int32} (hs : ¬ isShipC α 4 c) : Run 159 0 [some (.ref (70)), some (.int (c)), none] [] (HC z γ π β η o od) = some (.inl (some (.int (1))), (HC z γ π β η o od)) := by
  simp only [↓reduceIte, e159_0, e159_1, e159_2, e159_5, e159_8, e159_9, e159_10, e159_11, e159_12, e159_15, e159_18, e159_19, e159_20, e159_21, e159_24, e159_25, e159_28, e159_29, e159_30, e159_33, e159_34, e159_37, e159_38, e159_39, e159_40, e159_41, e159_42, e159_45, e159_46, e159_47, e159_48, e159_51, e159_54, e159_57, e159_60, e159_61, e159_64, e159_65, e159_66, e159_67, e159_70, e159_71, e159_74, e159_75, isO70, s124 H R, bi_f hs, aft_v, aft_n, Option.bind_some, rf_some, ck_i, ck_r, ck_n, nb0, nb1, nbi, Nat.reduceAdd, if_true, if_false, not_false_eq_true, not_true_eq_false]
end S41
