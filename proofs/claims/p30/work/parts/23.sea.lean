/-! SPECS of the class: cells, rocks, ships on cells -/
abbrev J (i : Nat) : Int32 := Int32.ofNat i
theorem J_ti {i : Nat} (h : i < 2147483648) : (J i).toInt = i := Int32.toInt_ofNat_of_lt h
theorem J_tn {i : Nat} (h : i < 2147483648) : (J i).toNatClampNeg = i := by
  unfold Int32.toNatClampNeg
  rw [J_ti h]; rfl
theorem J_le {a b : Nat} (ha : a < 2147483648) (hb : b < 2147483648) : (J a ≤ J b) = (a ≤ b) := by
  rw [i32_le, J_ti ha, J_ti hb]; exact propext ⟨Int.ofNat_le.mp, Int.ofNat_le.mpr⟩
theorem J_lt {a b : Nat} (ha : a < 2147483648) (hb : b < 2147483648) : (J a < J b) = (a < b) := by
  rw [i32_lt, J_ti ha, J_ti hb]; exact propext ⟨Int.ofNat_lt.mp, Int.ofNat_lt.mpr⟩
theorem J_eq {a b : Nat} (ha : a < 2147483648) (hb : b < 2147483648) : (J a = J b) = (a = b) := by
  rw [i32_eq, J_ti ha, J_ti hb]; exact propext ⟨Int.ofNat_inj.mp, Int.ofNat_inj.mpr⟩
theorem J_succ (i : Nat) : J i + 1 = J (i + 1) := (Int32.ofNat_add i 1).symm
theorem inB_of {c : Int32} {k : Nat} (h : 0 ≤ c.toInt) (h2 : c.toInt < k) : inB c k = true := by
  simp only [inB, Bool.not_eq_true', Bool.or_eq_false_iff, decide_eq_false_iff_not, i32_lt, Int32.toInt_zero]
  unfold Int32.toNatClampNeg
  omega
theorem inB_J {i k : Nat} (h : i < k) (hk : k < 2147483648) : inB (J i) k = true := by
  have := J_ti (show i < 2147483648 by omega)
  exact inB_of (by omega) (by omega)
theorem J_of {c : Int32} (h : 0 ≤ c.toInt) : J c.toNatClampNeg = c := by
  rw [i32_eq, J_ti (by have := c.toInt_lt; unfold Int32.toNatClampNeg; omega)]
  unfold Int32.toNatClampNeg; omega
theorem kd_ship {i : Nat} (h : i < 8) : kd (7 + i) = 7 := by
  have : ∀ i, i < 8 → kd (7 + i) = 7 := by decide
  exact this i h
theorem kd4 : kd 4 = 6 := by decide
theorem kd5 : kd 5 = 40 := by decide
theorem kd6 : kd 6 = 21 := by decide
theorem al5 : aln 5 = 144 := by decide
theorem isO4 {z : Zr} {α β : Mem} {π : Nat → Nat} {η : Int64} {o : Nat → Int64} {od : Nat → UInt64} : isO (HC z α π β η o od) 4 6 = true := isO_HC kd4 (by decide)
theorem ti0 : (0 : Int32).toInt = 0 := rfl
theorem ti1 : (1 : Int32).toInt = 1 := rfl
theorem tim1 : (-1 : Int32).toInt = -1 := rfl
theorem ti144 : (144 : Int32).toInt = 144 := rfl
theorem ti8 : (8 : Int32).toInt = 8 := rfl
section S23
variable {z : Zr} {α β γ : Mem} {π : Nat → Nat} {η : Int64} {o : Nat → Int64} {od : Nat → UInt64}
abbrev rockC (α : Mem) (c : Int32) : Prop := isCellC α 4 c ∧ ¬ α 5 c.toNatClampNeg = 0
theorem cell_in {c : Int32} {α : Mem} {B : Nat} (h : isCellC α B c) : inB c 144 = true := by
  have h1 := h.1; have h2 := h.2.2
  rw [i32_le, ti0] at h1; rw [i32_lt, ti144] at h2
  exact inB_of h1 h2
theorem s48 (c : Int32) : Run 48 0 [some (.ref (4)), some (.int (c))] [] (HC z α π β η o od) = some (.inl (some (.int (bi (rockC α c)))), (HC z α π β η o od)) := by
  by_cases hc : isCellC α 4 c
  · have hi := cell_in hc
    rw [← al5] at hi
    simp only [e48_0, e48_1, e48_2, e48_5, e48_8, e48_9, e48_12, e48_13, e48_14, e48_17, e48_18, e48_21, e48_22, s44 kd4, isO4, bi_t hc, gf6_6 kd4, gaI40 kd5 hi, show ¬ (1 : Int32) = 0 by decide, aft_v, aft_n, Option.bind_some, rf_some, ck_i, ck_r, ck_n, nb0, nb1, nbi, Nat.reduceAdd, if_true, if_false, not_false_eq_true, not_true_eq_false]
    by_cases h : α 5 c.toNatClampNeg = 0
    · rw [if_pos h, bi_f (fun q => q.2 h)]
    · rw [if_neg h, bi_t ⟨hc, h⟩]
  · simp only [e48_0, e48_1, e48_2, e48_5, e48_8, e48_9, e48_12, e48_13, e48_14, e48_17, e48_18, e48_21, e48_22, s44 kd4, isO4, bi_f hc, aft_v, aft_n, Option.bind_some, rf_some, ck_i, ck_r, ck_n, nb0, nb1, nbi, Nat.reduceAdd, if_true, if_false, not_false_eq_true, not_true_eq_false]
    rw [bi_f (fun q => hc q.1)]
theorem s49 {c b : Int32} (hc : isCellC α 4 c) (hb : b = 0 ∨ b = 1) : Run 49 0 [some (.ref (4)), some (.int (c)), some (.int (b))] [] (HC z α π β η o od) = some (.inl none, (HC z (up2 α 5 c.toNatClampNeg b) π β η o od)) := by
  have hi := cell_in hc
  rw [← al5] at hi
  rcases hb with rfl | rfl
  · simp only [e49_0, e49_1, e49_2, e49_5, e49_8, e49_9, e49_12, e49_13, e49_14, e49_17, e49_18, e49_21, e49_22, e49_23, s44 kd4, isO4, bi_t hc, gf6_6 kd4, paI40 kd5 hi, show ¬ (1 : Int32) = 0 by decide, aft_v, aft_n, Option.bind_some, rf_some, ck_i, ck_r, ck_n, nb0, nb1, nbi, Nat.reduceAdd, if_true, if_false, not_false_eq_true, not_true_eq_false]
  · simp only [e49_0, e49_1, e49_2, e49_5, e49_8, e49_9, e49_12, e49_13, e49_14, e49_17, e49_18, e49_21, e49_22, e49_23, s44 kd4, isO4, bi_t hc, gf6_6 kd4, paI40 kd5 hi, show ¬ (1 : Int32) = 0 by decide, aft_v, aft_n, Option.bind_some, rf_some, ck_i, ck_r, ck_n, nb0, nb1, nbi, Nat.reduceAdd, if_true, if_false, not_false_eq_true, not_true_eq_false]
/-- the first ship afloat on a cell, of the k ships from i on -/
def shipOnF (α : Mem) (c : Int32) : Nat → Nat → Int32
  | 0, _ => -1
  | k + 1, i => if 0 < α (7 + i) 3 ∧ α (7 + i) 1 = c then J i else shipOnF α c k (i + 1)
theorem s50_l {n : Nat} (hn : α 4 5 = J n) (h8 : n ≤ 8) (c : Int32) : ∀ k i, i + k = n → Run 50 2 [some (.ref (4)), some (.int (c)), some (.int (J i))] [] (HC z α π β η o od) = some (.inl (some (.int (shipOnF α c k i))), (HC z α π β η o od)) := by
  intro k
  induction k with
  | zero =>
    intro i hi
    simp only [e50_0, e50_1, e50_2, e50_3, e50_4, e50_7, e50_10, e50_11, e50_13, e50_16, e50_17, e50_20, e50_21, e50_22, e50_25, e50_28, e50_29, e50_32, e50_33, e50_34, e50_37, e50_38, e50_41, e50_42, e50_43, e50_46, e50_49, e50_50, gf6_5 kd4, hn, J_le (show n < 2147483648 by omega) (show i < 2147483648 by omega), show n ≤ i by omega, shipOnF, aft_v, aft_n, Option.bind_some, rf_some, ck_i, ck_r, ck_n, nb0, nb1, nbi, Nat.reduceAdd, if_true, if_false, not_false_eq_true, not_true_eq_false]
  | succ k ih =>
    intro i hi
    rw [e50_2]
    simp only [e50_0, e50_1, e50_3, e50_4, e50_7, e50_10, e50_11, e50_13, e50_16, e50_17, e50_20, e50_21, e50_22, e50_25, e50_28, e50_29, e50_32, e50_33, e50_34, e50_37, e50_38, e50_41, e50_42, e50_43, e50_46, e50_49, e50_50, gf6_5 kd4, gf6_7 kd4, hn, J_le (show n < 2147483648 by omega) (show i < 2147483648 by omega), show ¬ n ≤ i by omega, (show (8 : Int32) = J 8 from rfl), J_le (show 8 < 2147483648 by omega) (show i < 2147483648 by omega), show ¬ 8 ≤ i by omega, gaR21 kd6 (inB_J (show i < 8 by omega) (by omega)), J_tn (show i < 2147483648 by omega), isO_HC (kd_ship (show i < 8 by omega)) (show 7 ≤ 9 by omega), s73 (kd_ship (show i < 8 by omega)), gf7_1 (kd_ship (show i < 8 by omega)), bi0, J_succ, ih (i + 1) (by omega), shipOnF, aft_v, aft_n, Option.bind_some, rf_some, ck_i, ck_r, ck_n, nb0, nb1, nbi, Nat.reduceAdd, if_true, if_false, not_false_eq_true, not_true_eq_false]
    by_cases h1 : 0 < α (7 + i) 3 <;> by_cases h2 : α (7 + i) 1 = c <;> simp only [h1, h2, and_true, and_false, true_and, false_and, aft_v, aft_n, Option.bind_some, rf_some, ck_i, ck_r, ck_n, nb0, nb1, nbi, Nat.reduceAdd, if_true, if_false, not_false_eq_true, not_true_eq_false]
theorem s50 {n : Nat} (hn : α 4 5 = J n) (h8 : n ≤ 8) (c : Int32) : Run 50 0 [some (.ref (4)), some (.int (c)), none] [] (HC z α π β η o od) = some (.inl (some (.int (shipOnF α c n 0))), (HC z α π β η o od)) := by
  rw [← s50_l hn h8 c n 0 (by omega)]
  simp only [e50_0, e50_1, show (0 : Int32) = J 0 from rfl, aft_v, aft_n, Option.bind_some, rf_some, ck_i, ck_r, ck_n, nb0, nb1, nbi, Nat.reduceAdd, if_true, if_false, not_false_eq_true, not_true_eq_false]
end S23
