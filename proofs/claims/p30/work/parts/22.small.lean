/-! SPECS, the small methods: what a run of each answers -/
theorem ck_i (v : Int32) : ck (some (.int v)) = some (.int v) := rfl
theorem ck_r (v : Nat) : ck (some (.ref v)) = some (.ref v) := rfl
theorem ck_n : ck none = none := rfl
theorem rf_some (a : Nat) : va_rf (some a) = .ref a := rfl
def bi (p : Prop) [Decidable p] : Int32 := if p then 1 else 0
theorem bi0 {p : Prop} [Decidable p] : (bi p = 0) = ¬ p := by unfold bi; split <;> simp_all
theorem bi1 {p : Prop} [Decidable p] : (bi p = 1) = p := by unfold bi; split <;> simp_all
theorem bi_t {p : Prop} [Decidable p] (h : p) : bi p = 1 := if_pos h
theorem bi_f {p : Prop} [Decidable p] (h : ¬ p) : bi p = 0 := if_neg h
theorem nb0 : (narrow .boolean (.int 0) = .int 0) = True := eq_true rfl
theorem nb1 : (narrow .boolean (.int 1) = .int 1) = True := eq_true rfl
theorem nbi (p : Prop) [Decidable p] : (narrow .boolean (.int (bi p)) = .int (bi p)) = True := by unfold bi; split <;> exact eq_true rfl
theorem i32_lt (a b : Int32) : a < b ↔ a.toInt < b.toInt := Int32.lt_iff_toInt_lt
theorem i32_le (a b : Int32) : a ≤ b ↔ a.toInt ≤ b.toInt := Int32.le_iff_toInt_le
theorem i32_eq (a b : Int32) : a = b ↔ a.toInt = b.toInt := Int32.toInt_inj.symm
theorem nle {a b : Int32} : (¬ a ≤ b) = (b < a) := by simp only [i32_lt, i32_le, Int.not_le]
theorem le_not {a b : Int32} : (a ≤ b) = ¬ (b < a) := by simp only [i32_lt, i32_le, Int.not_lt]
theorem nlt {a b : Int32} : (¬ a < b) = (b ≤ a) := by simp only [i32_lt, i32_le, Int.not_lt]
section S22
variable {z : Zr} {α β γ : Mem} {π : Nat → Nat} {η : Int64} {o : Nat → Int64} {od : Nat → UInt64}
theorem s73 {a : Nat} (ha : kd a = 7) : Run 73 0 [some (.ref a)] [] (HC z α π β η o od) = some (.inl (some (.int (bi (0 < α a 3)))), (HC z α π β η o od)) := by
  simp only [e73_0, e73_1, e73_4, e73_7, e73_8, e73_11, e73_12, gf7_3 ha, aft_v, aft_n, Option.bind_some, rf_some, ck_i, ck_r, ck_n, nb0, nb1, nbi, Nat.reduceAdd, if_true, if_false, not_false_eq_true, not_true_eq_false]
  split
  · next h => rw [bi_f (by rw [nlt]; exact h)]
  · next h => rw [bi_t (by rw [nle] at h; exact h)]
theorem s74 {a : Nat} (ha : kd a = 7) : Run 74 0 [some (.ref a)] [] (HC z α π β η o od) = some (.inl (some (.int (bi (¬ α a 12 = -1)))), (HC z α π β η o od)) := by
  simp only [e74_0, e74_1, e74_4, e74_5, e74_8, e74_9, e74_12, e74_13, gf7_12 ha, aft_v, aft_n, Option.bind_some, rf_some, ck_i, ck_r, ck_n, nb0, nb1, nbi, Nat.reduceAdd, if_true, if_false, not_false_eq_true, not_true_eq_false]
  split
  · next h => rw [bi_f (fun q => q h)]
  · next h => rw [bi_t h]
/-- can sail: afloat, sails, not grappled, points -/
abbrev canSailC (α : Mem) (a : Nat) : Prop := 0 < α a 3 ∧ 0 < α a 4 ∧ α a 12 = -1 ∧ 0 < α a 9
theorem s75 {a : Nat} (ha : kd a = 7) : Run 75 0 [some (.ref a)] [] (HC z α π β η o od) = some (.inl (some (.int (bi (canSailC α a)))), (HC z α π β η o od)) := by
  simp only [e75_0, e75_1, e75_4, e75_7, e75_8, e75_11, e75_14, e75_15, e75_18, e75_21, e75_22, e75_25, e75_28, e75_29, e75_32, e75_33, gf7_4 ha, gf7_9 ha, isO_HC ha (Nat.le_of_ble_eq_true rfl : 7 ≤ 9), s73 ha, s74 ha, bi0, ite_not, le_not, aft_v, aft_n, Option.bind_some, rf_some, ck_i, ck_r, ck_n, nb0, nb1, nbi, Nat.reduceAdd, if_true, if_false, not_false_eq_true, not_true_eq_false]
  unfold canSailC bi
  by_cases h1 : 0 < α a 3 <;> by_cases h2 : 0 < α a 4 <;> by_cases h3 : α a 12 = -1 <;> by_cases h4 : 0 < α a 9 <;> simp only [h1, h2, h3, h4, and_true, and_false, true_and, false_and, if_true, if_false, not_true_eq_false, not_false_eq_true]
theorem s114 (x : Int32) : Run 114 0 [some (.int x), some (.int 6), none] [] (HC z α π β η o od) = some (.inl (some (.int (if 0 ≤ x ^^^ 6 then x - x / 6 * 6 else if x - x / 6 * 6 = 0 then x - x / 6 * 6 else x - x / 6 * 6 + 6))), (HC z α π β η o od)) := by
  simp only [e114_0, e114_1, e114_2, e114_3, e114_4, e114_5, e114_6, e114_7, e114_10, e114_11, e114_14, e114_15, e114_16, e114_17, e114_18, e114_19, aft_v, aft_n, Option.bind_some, rf_some, ck_i, ck_r, ck_n, nb0, nb1, nbi, Nat.reduceAdd, if_true, if_false, not_false_eq_true, not_true_eq_false, show ¬ (6 : Int32) = 0 by decide, not_false_eq_true]
  repeat' split
  all_goals rfl
theorem s116 (x w : Int32) : Run 116 0 [some (.int x), some (.int w)] [] (HC z α π β η o od) = some (.inl (some (.int (if x < w then w else x))), (HC z α π β η o od)) := by
  simp only [e116_0, e116_1, e116_2, e116_5, e116_6, e116_9, e116_10, aft_v, aft_n, Option.bind_some, rf_some, ck_i, ck_r, ck_n, nb0, nb1, nbi, Nat.reduceAdd, if_true, if_false, not_false_eq_true, not_true_eq_false]
  split <;> rfl
theorem s117 (x w : Int32) : Run 117 0 [some (.int x), some (.int w)] [] (HC z α π β η o od) = some (.inl (some (.int (if w < x then w else x))), (HC z α π β η o od)) := by
  simp only [e117_0, e117_1, e117_2, e117_5, e117_6, e117_9, e117_10, aft_v, aft_n, Option.bind_some, rf_some, ck_i, ck_r, ck_n, nb0, nb1, nbi, Nat.reduceAdd, if_true, if_false, not_false_eq_true, not_true_eq_false]
  split <;> rfl
theorem s115 (x : Int32) : Run 115 0 [some (.int x)] [] (HC z α π β η o od) = some (.inl (some (.int (if 0 ≤ x then x else -x))), (HC z α π β η o od)) := by
  simp only [e115_0, e115_1, e115_4, e115_5, e115_6, e115_9, e115_10, aft_v, aft_n, Option.bind_some, rf_some, ck_i, ck_r, ck_n, nb0, nb1, nbi, Nat.reduceAdd, if_true, if_false, not_false_eq_true, not_true_eq_false]
  split <;> rfl
abbrev isCellC (α : Mem) (B : Nat) (c : Int32) : Prop := 0 ≤ c ∧ c < α B 0 * α B 1 ∧ c < 144
theorem s44 {B : Nat} (ha : kd B = 6) (c : Int32) : Run 44 0 [some (.ref B), some (.int c)] [] (HC z α π β η o od) = some (.inl (some (.int (bi (isCellC α B c)))), (HC z α π β η o od)) := by
  simp only [e44_0, e44_1, e44_4, e44_5, e44_6, e44_9, e44_10, e44_13, e44_14, e44_17, e44_18, e44_21, e44_24, e44_25, e44_28, e44_29, gf6_0 ha, gf6_1 ha, aft_v, aft_n, Option.bind_some, rf_some, ck_i, ck_r, ck_n, nb0, nb1, nbi, Nat.reduceAdd, if_true, if_false, not_false_eq_true, not_true_eq_false]
  unfold isCellC bi
  repeat' split
  all_goals first | rfl | (exfalso; simp only [i32_lt, i32_le, not_and, Int32.toInt_zero] at *; omega)
abbrev isShipC (α : Mem) (B : Nat) (c : Int32) : Prop := 0 ≤ c ∧ c < α B 5 ∧ c < 8
theorem s45 {B : Nat} (ha : kd B = 6) (c : Int32) : Run 45 0 [some (.ref B), some (.int c)] [] (HC z α π β η o od) = some (.inl (some (.int (bi (isShipC α B c)))), (HC z α π β η o od)) := by
  simp only [e45_0, e45_1, e45_4, e45_5, e45_6, e45_9, e45_12, e45_13, e45_15, e45_18, e45_19, e45_22, e45_23, gf6_5 ha, aft_v, aft_n, Option.bind_some, rf_some, ck_i, ck_r, ck_n, nb0, nb1, nbi, Nat.reduceAdd, if_true, if_false, not_false_eq_true, not_true_eq_false]
  unfold isShipC bi
  repeat' split
  all_goals first | rfl | (exfalso; simp only [i32_lt, i32_le, not_and, Int32.toInt_zero] at *; omega)
theorem s46 {B : Nat} (ha : kd B = 6) (c : Int32) (hW : 0 < α B 0) : Run 46 0 [some (.ref B), some (.int c)] [] (HC z α π β η o od) = some (.inl (some (.int (c / α B 0))), (HC z α π β η o od)) := by
  have h1 : ¬ α B 0 ≤ 0 := by rw [nle]; exact hW
  have h2 : ¬ α B 0 = 0 := fun q => by rw [q] at hW; exact absurd hW (by decide)
  simp only [e46_0, e46_1, e46_4, e46_7, e46_8, e46_9, e46_12, e46_13, e46_16, e46_17, gf6_0 ha, aft_v, aft_n, Option.bind_some, rf_some, ck_i, ck_r, ck_n, nb0, nb1, nbi, Nat.reduceAdd, if_true, if_false, not_false_eq_true, not_true_eq_false, h1, h2, if_false, not_false_eq_true]
theorem s47 {B : Nat} (ha : kd B = 6) (c : Int32) (hW : 0 < α B 0) : Run 47 0 [some (.ref B), some (.int c)] [] (HC z α π β η o od) = some (.inl (some (.int (c - c / α B 0 * α B 0))), (HC z α π β η o od)) := by
  have h1 : ¬ α B 0 ≤ 0 := by rw [nle]; exact hW
  have h2 : ¬ α B 0 = 0 := fun q => by rw [q] at hW; exact absurd hW (by decide)
  simp only [e47_0, e47_1, e47_4, e47_7, e47_8, e47_9, e47_12, e47_13, e47_16, e47_17, gf6_0 ha, aft_v, aft_n, Option.bind_some, rf_some, ck_i, ck_r, ck_n, nb0, nb1, nbi, Nat.reduceAdd, if_true, if_false, not_false_eq_true, not_true_eq_false, h1, h2, if_false, not_false_eq_true]
end S22
