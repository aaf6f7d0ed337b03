/-! the text, its grammar, one order -/
theorem kd68 : kd 68 = 5 := by decide
theorem kd69 : kd 69 = 40 := by decide
theorem al69 : aln 69 = 150 := by decide
theorem J150 : (150 : Int32) = J 150 := rfl
theorem J0 : (0 : Int32) = J 0 := rfl
def byF (α : Mem) (l i : Nat) : Int32 := if i < l then α 69 i else -1
/-- the place behind a sign: 0 start, 1 behind a ship, 2 behind w, 3 at the end of an order -/
def pbN (p : Nat) (c : Int32) : Option Nat :=
  if p = 0 then (if 48 ≤ c ∧ c ≤ 57 then some 1 else if c = 119 then some 2 else if c = 101 then some 3 else none)
  else if p = 1 then (if c = 97 ∨ c = 108 ∨ c = 114 then some 3 else none)
  else if p = 2 then (if 48 ≤ c ∧ c ≤ 53 then some 3 else none)
  else (if c = 59 then some 0 else none)
def oJ (x : Option Nat) : Int32 := match x with | none => -1 | some q => J q
def errF (α : Mem) (l : Nat) : Nat → Nat → Nat → Int32
  | 0, _, p => if p = 0 then -1 else J l
  | k + 1, i, p => match pbN p (α 69 i) with | none => J i | some q => errF α l k (i + 1) q
theorem pbN_lt {p : Nat} {c : Int32} {q : Nat} (h : pbN p c = some q) : q < 4 := by
  unfold pbN at h
  split at h <;> (repeat' split at h) <;> first | (cases h; omega) | cases h
section S33
variable {z : Zr} {α β γ : Mem} {π : Nat → Nat} {η : Int64} {o : Nat → Int64} {od : Nat → UInt64} {n l : Nat}
theorem isO68 : isO (HC z α π β η o od) 68 5 = true := isO_HC kd68 (by decide)
theorem s34 (hl : α 68 1 = J l) (h150 : l ≤ 150) : Run 34 0 [some (.ref (68))] [] (HC z α π β η o od) = some (.inl (some (.int (bi (l = 150)))), (HC z α π β η o od)) := by
  unfold bi
  simp only [e34_0, e34_1, e34_4, e34_7, e34_10, e34_11, e34_14, e34_15, gf5_1 kd68, hl, J150, J_lt (show l < 2147483648 by omega) (show 150 < 2147483648 by omega), aft_v, aft_n, Option.bind_some, rf_some, ck_i, ck_r, ck_n, nb0, nb1, nbi, Nat.reduceAdd, if_true, if_false, not_false_eq_true, not_true_eq_false]
  by_cases q : l = 150
  · simp only [q, Nat.lt_irrefl, aft_v, aft_n, Option.bind_some, rf_some, ck_i, ck_r, ck_n, nb0, nb1, nbi, Nat.reduceAdd, if_true, if_false, not_false_eq_true, not_true_eq_false]
  · simp only [q, show l < 150 by omega, aft_v, aft_n, Option.bind_some, rf_some, ck_i, ck_r, ck_n, nb0, nb1, nbi, Nat.reduceAdd, if_true, if_false, not_false_eq_true, not_true_eq_false]
theorem s35 (hl : α 68 1 = J l) (h150 : l < 150) (v : Int32) : Run 35 0 [some (.ref (68)), some (.int (v))] [] (HC z α π β η o od) = some (.inl none, (HC z (up2 (up2 α 69 l v) 68 1 (J (l + 1))) π β η o od)) := by
  have hi : inB (J l) (aln 69) = true := by rw [al69]; exact inB_J h150 (by omega)
  simp only [e35_0, e35_1, e35_4, e35_7, e35_8, e35_11, e35_14, e35_17, e35_18, e35_21, e35_22, e35_25, e35_26, e35_27, e35_28, e35_29, e35_32, e35_33, e35_34, e35_37, gf5_1 kd68, gf5_0 kd68, up2_ne _ (show (68 : Nat) ≠ 69 by decide), hl, J150, J0, J_lt (show l < 2147483648 by omega) (show 150 < 2147483648 by omega), J_lt (show l < 2147483648 by omega) (show 0 < 2147483648 by omega), le_not, h150, show ¬ l < 0 by omega, paI40 kd69 hi, J_tn (show l < 2147483648 by omega), J_succ, pf5_1 kd68, aft_v, aft_n, Option.bind_some, rf_some, ck_i, ck_r, ck_n, nb0, nb1, nbi, Nat.reduceAdd, if_true, if_false, not_false_eq_true, not_true_eq_false]
theorem s36 (hl : α 68 1 = J l) (h150 : l ≤ 150) {i : Nat} (hi : i < 1000) : Run 36 0 [some (.ref (68)), some (.int (J i))] [] (HC z α π β η o od) = some (.inl (some (.int (byF α l i))), (HC z α π β η o od)) := by
  unfold byF
  by_cases q : i < l
  · have hb : inB (J i) (aln 69) = true := by rw [al69]; exact inB_J (by omega) (by omega)
    simp only [e36_0, e36_1, e36_4, e36_5, e36_6, e36_9, e36_12, e36_13, e36_16, e36_19, e36_20, e36_23, e36_24, e36_25, e36_28, e36_29, gf5_1 kd68, gf5_0 kd68, hl, J150, J0, J_lt (show i < 2147483648 by omega) (show 150 < 2147483648 by omega), J_lt (show i < 2147483648 by omega) (show l < 2147483648 by omega), J_lt (show i < 2147483648 by omega) (show 0 < 2147483648 by omega), le_not, q, show i < 150 by omega, show ¬ i < 0 by omega, gaI40 kd69 hb, J_tn (show i < 2147483648 by omega), aft_v, aft_n, Option.bind_some, rf_some, ck_i, ck_r, ck_n, nb0, nb1, nbi, Nat.reduceAdd, if_true, if_false, not_false_eq_true, not_true_eq_false]
  · simp only [e36_0, e36_1, e36_4, e36_5, e36_6, e36_9, e36_12, e36_13, e36_16, e36_19, e36_20, e36_23, e36_24, e36_25, e36_28, e36_29, gf5_1 kd68, gf5_0 kd68, hl, J0, J_lt (show i < 2147483648 by omega) (show l < 2147483648 by omega), J_lt (show i < 2147483648 by omega) (show 0 < 2147483648 by omega), le_not, q, show ¬ i < 0 by omega, aft_v, aft_n, Option.bind_some, rf_some, ck_i, ck_r, ck_n, nb0, nb1, nbi, Nat.reduceAdd, if_true, if_false, not_false_eq_true, not_true_eq_false]
theorem s39 (c : Int32) : Run 39 0 [some (.int (c))] [] (HC z α π β η o od) = some (.inl (some (.int (oJ (pbN 0 c)))), (HC z α π β η o od)) := by
  unfold pbN
  simp only [e39_0, e39_1, e39_3, e39_6, e39_7, e39_9, e39_12, e39_13, e39_14, e39_15, e39_17, e39_20, e39_21, e39_22, e39_23, e39_25, e39_28, e39_29, e39_32, e39_33, le_not, aft_v, aft_n, Option.bind_some, rf_some, ck_i, ck_r, ck_n, nb0, nb1, nbi, Nat.reduceAdd, if_true, if_false, not_false_eq_true, not_true_eq_false]
  by_cases q1 : c < 48 <;> by_cases q2 : 57 < c <;> by_cases q3 : c = 119 <;> by_cases q4 : c = 101 <;> simp only [q1, q2, q3, q4, and_true, and_false, true_and, false_and, oJ, show ((101 : Int32) = 119) = False from eq_false (by decide), show ((119 : Int32) = 101) = False from eq_false (by decide), aft_v, aft_n, Option.bind_some, rf_some, ck_i, ck_r, ck_n, nb0, nb1, nbi, Nat.reduceAdd, if_true, if_false, not_false_eq_true, not_true_eq_false] <;> rfl
theorem s38 {p : Nat} (hp : p < 4) (c : Int32) : Run 38 0 [some (.int (J p)), some (.int (c))] [] (HC z α π β η o od) = some (.inl (some (.int (oJ (pbN p c)))), (HC z α π β η o od)) := by
  have h : p = 0 ∨ p = 1 ∨ p = 2 ∨ p = 3 := by omega
  rcases h with rfl | rfl | rfl | rfl
  · simp only [e38_0, e38_28, e38_29, e38_32, e38_33, e38_34, e38_36, e38_39, e38_40, e38_42, e38_45, e38_46, e38_48, e38_51, e38_52, e38_55, e38_56, e38_57, e38_58, e38_60, e38_63, e38_64, e38_66, e38_69, e38_70, e38_73, e38_74, e38_75, e38_76, e38_78, e38_81, e38_82, e38_85, e38_86, show J 0 = 0 from rfl, e38_1_0, s39, aft_v, aft_n, Option.bind_some, rf_some, ck_i, ck_r, ck_n, nb0, nb1, nbi, Nat.reduceAdd, if_true, if_false, not_false_eq_true, not_true_eq_false]
  · unfold pbN
    simp only [e38_0, e38_28, e38_29, e38_32, e38_33, e38_34, e38_36, e38_39, e38_40, e38_42, e38_45, e38_46, e38_48, e38_51, e38_52, e38_55, e38_56, e38_57, e38_58, e38_60, e38_63, e38_64, e38_66, e38_69, e38_70, e38_73, e38_74, e38_75, e38_76, e38_78, e38_81, e38_82, e38_85, e38_86, show J 1 = 1 from rfl, e38_1_1, show ¬ (1 : Nat) = 0 by decide, aft_v, aft_n, Option.bind_some, rf_some, ck_i, ck_r, ck_n, nb0, nb1, nbi, Nat.reduceAdd, if_true, if_false, not_false_eq_true, not_true_eq_false]
    by_cases q1 : c = 97 <;> by_cases q2 : c = 108 <;> by_cases q3 : c = 114 <;> simp only [q1, q2, q3, or_true, true_or, or_false, false_or, oJ, show ((108 : Int32) = 97) = False from eq_false (by decide), show ((114 : Int32) = 97) = False from eq_false (by decide), show ((114 : Int32) = 108) = False from eq_false (by decide), show ((97 : Int32) = 108) = False from eq_false (by decide), show ((97 : Int32) = 114) = False from eq_false (by decide), show ((108 : Int32) = 114) = False from eq_false (by decide), aft_v, aft_n, Option.bind_some, rf_some, ck_i, ck_r, ck_n, nb0, nb1, nbi, Nat.reduceAdd, if_true, if_false, not_false_eq_true, not_true_eq_false] <;> rfl
  · unfold pbN
    simp only [e38_0, e38_28, e38_29, e38_32, e38_33, e38_34, e38_36, e38_39, e38_40, e38_42, e38_45, e38_46, e38_48, e38_51, e38_52, e38_55, e38_56, e38_57, e38_58, e38_60, e38_63, e38_64, e38_66, e38_69, e38_70, e38_73, e38_74, e38_75, e38_76, e38_78, e38_81, e38_82, e38_85, e38_86, show J 2 = 2 from rfl, e38_1_2, show ¬ (2 : Nat) = 0 by decide, show ¬ (2 : Nat) = 1 by decide, le_not, aft_v, aft_n, Option.bind_some, rf_some, ck_i, ck_r, ck_n, nb0, nb1, nbi, Nat.reduceAdd, if_true, if_false, not_false_eq_true, not_true_eq_false]
    by_cases q1 : c < 48 <;> by_cases q2 : 53 < c <;> simp only [q1, q2, and_true, and_false, true_and, false_and, oJ, aft_v, aft_n, Option.bind_some, rf_some, ck_i, ck_r, ck_n, nb0, nb1, nbi, Nat.reduceAdd, if_true, if_false, not_false_eq_true, not_true_eq_false] <;> rfl
  · unfold pbN
    rw [e38_0, e38_1_d (by decide)]
    simp only [e38_0, e38_28, e38_29, e38_32, e38_33, e38_34, e38_36, e38_39, e38_40, e38_42, e38_45, e38_46, e38_48, e38_51, e38_52, e38_55, e38_56, e38_57, e38_58, e38_60, e38_63, e38_64, e38_66, e38_69, e38_70, e38_73, e38_74, e38_75, e38_76, e38_78, e38_81, e38_82, e38_85, e38_86, show ¬ (3 : Nat) = 0 by decide, show ¬ (3 : Nat) = 1 by decide, show ¬ (3 : Nat) = 2 by decide, aft_v, aft_n, Option.bind_some, rf_some, ck_i, ck_r, ck_n, nb0, nb1, nbi, Nat.reduceAdd, if_true, if_false, not_false_eq_true, not_true_eq_false]
    by_cases q1 : c = 59 <;> simp only [q1, oJ, aft_v, aft_n, Option.bind_some, rf_some, ck_i, ck_r, ck_n, nb0, nb1, nbi, Nat.reduceAdd, if_true, if_false, not_false_eq_true, not_true_eq_false] <;> rfl
theorem s37_l (hl : α 68 1 = J l) (h150 : l ≤ 150) : ∀ k i p, i + k = l → p < 4 → Run 37 4 [some (.ref (68)), some (.int (J p)), some (.int (J i))] [] (HC z α π β η o od) = some (.inl (some (.int (errF α l k i p))), (HC z α π β η o od)) := by
  intro k
  induction k with
  | zero =>
    intro i p hi hp
    unfold errF
    simp only [↓reduceIte, e37_0, e37_1, e37_2, e37_3, e37_4, e37_5, e37_6, e37_9, e37_12, e37_13, e37_14, e37_15, e37_18, e37_21, e37_22, e37_23, e37_24, e37_27, e37_28, e37_29, e37_32, e37_35, e37_36, e37_39, e37_40, e37_43, e37_44, e37_47, gf5_1 kd68, hl, J_le (show l < 2147483648 by omega) (show i < 2147483648 by omega), show l ≤ i by omega, J0, J_eq (show p < 2147483648 by omega) (show 0 < 2147483648 by omega), aft_v, aft_n, Option.bind_some, rf_some, ck_i, ck_r, ck_n, nb0, nb1, nbi, Nat.reduceAdd, if_true, if_false, not_false_eq_true, not_true_eq_false]
    by_cases q : p = 0 <;> simp only [q, aft_v, aft_n, Option.bind_some, rf_some, ck_i, ck_r, ck_n, nb0, nb1, nbi, Nat.reduceAdd, if_true, if_false, not_false_eq_true, not_true_eq_false]
  | succ k ih =>
    intro i p hi hp
    rw [e37_4]
    have hb : byF α l i = α 69 i := if_pos (by omega)
    unfold errF
    cases hq : pbN p (α 69 i) with
    | none => simp only [↓reduceIte, e37_0, e37_1, e37_2, e37_3, e37_5, e37_6, e37_9, e37_12, e37_13, e37_14, e37_15, e37_18, e37_21, e37_22, e37_23, e37_24, e37_27, e37_28, e37_29, e37_32, e37_35, e37_36, e37_39, e37_40, e37_43, e37_44, e37_47, gf5_1 kd68, hl, J_le (show l < 2147483648 by omega) (show i < 2147483648 by omega), show ¬ l ≤ i by omega, isO68, s36 hl h150 (show i < 1000 by omega), hb, s38 hp, hq, oJ, aft_v, aft_n, Option.bind_some, rf_some, ck_i, ck_r, ck_n, nb0, nb1, nbi, Nat.reduceAdd, if_true, if_false, not_false_eq_true, not_true_eq_false]
    | some q =>
      have hq4 := pbN_lt hq
      have hm : ¬ J q = -1 := by rw [i32_eq, J_ti (by omega), tim1]; omega
      simp only [↓reduceIte, e37_0, e37_1, e37_2, e37_3, e37_5, e37_6, e37_9, e37_12, e37_13, e37_14, e37_15, e37_18, e37_21, e37_22, e37_23, e37_24, e37_27, e37_28, e37_29, e37_32, e37_35, e37_36, e37_39, e37_40, e37_43, e37_44, e37_47, gf5_1 kd68, hl, J_le (show l < 2147483648 by omega) (show i < 2147483648 by omega), show ¬ l ≤ i by omega, isO68, s36 hl h150 (show i < 1000 by omega), hb, s38 hp, hq, oJ, hm, J_succ, ih (i + 1) q (by omega) hq4, aft_v, aft_n, Option.bind_some, rf_some, ck_i, ck_r, ck_n, nb0, nb1, nbi, Nat.reduceAdd, if_true, if_false, not_false_eq_true, not_true_eq_false]
theorem s37 (hl : α 68 1 = J l) (h150 : l ≤ 150) : Run 37 0 [some (.ref (68)), none, none] [] (HC z α π β η o od) = some (.inl (some (.int (errF α l l 0 0))), (HC z α π β η o od)) := by
  rw [← s37_l hl h150 l 0 0 (by omega) (by omega)]
  simp only [e37_0, e37_1, e37_2, e37_3, J0, aft_v, aft_n, Option.bind_some, rf_some, ck_i, ck_r, ck_n, nb0, nb1, nbi, Nat.reduceAdd, if_true, if_false, not_false_eq_true, not_true_eq_false]
theorem isShip_J {i : Nat} (hn : α 4 5 = J n) (h8 : n ≤ 8) (hi : i < n) : isShipC α 4 (J i) := by
  refine ⟨?_, ?_, ?_⟩
  · rw [J0, J_le (by omega) (by omega)]; omega
  · rw [hn, J_lt (by omega) (by omega)]; omega
  · rw [show (8 : Int32) = J 8 from rfl, J_lt (by omega) (by omega)]; omega
theorem isShip_ex {c : Int32} (hn : α 4 5 = J n) (h8 : n ≤ 8) (h : isShipC α 4 c) : ∃ i, i < n ∧ c = J i := by
  have h1 := h.1; have h2 := h.2.1
  rw [i32_le, ti0] at h1
  rw [hn, i32_lt, J_ti (by omega)] at h2
  exact J_rng h1 h2
theorem s26_e (H : Ok α n) (c : Int32) : Run 26 0 [some (.ref (61)), some (.int (101)), some (.int (c)), none, none] [] (HC z α π β η o od) = some (.inl (some (.int (1))), (HC z (finC α n) π β η o od)) := by
  simp only [↓reduceIte, e26_0, e26_1, e26_3, e26_6, e26_7, e26_10, e26_11, e26_12, e26_13, e26_14, e26_16, e26_19, e26_20, e26_23, e26_24, e26_26, e26_27, e26_30, e26_31, e26_32, e26_33, e26_35, e26_36, e26_37, e26_38, e26_41, e26_42, e26_45, e26_48, e26_49, e26_50, e26_51, e26_54, e26_57, e26_58, e26_59, e26_61, e26_62, e26_64, e26_67, e26_68, e26_70, e26_73, e26_76, e26_77, e26_79, e26_80, e26_82, e26_85, e26_86, e26_89, e26_90, e26_93, isO61, s24 H, aft_v, aft_n, Option.bind_some, rf_some, ck_i, ck_r, ck_n, nb0, nb1, nbi, Nat.reduceAdd, if_true, if_false, not_false_eq_true, not_true_eq_false]
theorem s26_w (c : Int32) : Run 26 0 [some (.ref (61)), some (.int (119)), some (.int (c)), none, none] [] (HC z α π β η o od) = some (.inl (some (.int (1))), (HC z (up2 α 4 2 (c - 48)) π β η o od)) := by
  simp only [↓reduceIte, e26_0, e26_1, e26_3, e26_6, e26_7, e26_10, e26_11, e26_12, e26_13, e26_14, e26_16, e26_19, e26_20, e26_23, e26_24, e26_26, e26_27, e26_30, e26_31, e26_32, e26_33, e26_35, e26_36, e26_37, e26_38, e26_41, e26_42, e26_45, e26_48, e26_49, e26_50, e26_51, e26_54, e26_57, e26_58, e26_59, e26_61, e26_62, e26_64, e26_67, e26_68, e26_70, e26_73, e26_76, e26_77, e26_79, e26_80, e26_82, e26_85, e26_86, e26_89, e26_90, e26_93, show ((119 : Int32) = 101) = False from eq_false (by decide), gf3_0 kd61, pf6_2 kd4, aft_v, aft_n, Option.bind_some, rf_some, ck_i, ck_r, ck_n, nb0, nb1, nbi, Nat.reduceAdd, if_true, if_false, not_false_eq_true, not_true_eq_false]
theorem s26_n (f c : Int32) (h1 : ¬ f = 101) (h2 : ¬ f = 119) (hs : ¬ isShipC α 4 (f - 48)) : Run 26 0 [some (.ref (61)), some (.int (f)), some (.int (c)), none, none] [] (HC z α π β η o od) = some (.inl (some (.int (0))), (HC z α π β η o od)) := by
  simp only [↓reduceIte, e26_0, e26_1, e26_3, e26_6, e26_7, e26_10, e26_11, e26_12, e26_13, e26_14, e26_16, e26_19, e26_20, e26_23, e26_24, e26_26, e26_27, e26_30, e26_31, e26_32, e26_33, e26_35, e26_36, e26_37, e26_38, e26_41, e26_42, e26_45, e26_48, e26_49, e26_50, e26_51, e26_54, e26_57, e26_58, e26_59, e26_61, e26_62, e26_64, e26_67, e26_68, e26_70, e26_73, e26_76, e26_77, e26_79, e26_80, e26_82, e26_85, e26_86, e26_89, e26_90, e26_93, h1, h2, gf3_0 kd61, isO4, s45 kd4, bi_f hs, aft_v, aft_n, Option.bind_some, rf_some, ck_i, ck_r, ck_n, nb0, nb1, nbi, Nat.reduceAdd, if_true, if_false, not_false_eq_true, not_true_eq_false]
theorem s26_a (H : Ok α n) (f : Int32) (h1 : ¬ f = 101) (h2 : ¬ f = 119) {i : Nat} (hi : i < n) (hs : f - 48 = J i) : Run 26 0 [some (.ref (61)), some (.int (f)), some (.int (97)), none, none] [] (HC z α π β η o od) = if canMoveC α n i then some (.inl (some (.int (1))), (HC z (moveC α i) π β η o od)) else some (.inl (some (.int (0))), (HC z α π β η o od)) := by
  have h8 := H.n8
  have e : Run 27 0 [some (.ref (61)), some (.ref (7 + i))] [] (HC z α π β η o od) = _ := s27 H hi
  by_cases q : canMoveC α n i
  · rw [if_pos q] at e ⊢
    simp only [↓reduceIte, e26_0, e26_1, e26_3, e26_6, e26_7, e26_10, e26_11, e26_12, e26_13, e26_14, e26_16, e26_19, e26_20, e26_23, e26_24, e26_26, e26_27, e26_30, e26_31, e26_32, e26_33, e26_35, e26_36, e26_37, e26_38, e26_41, e26_42, e26_45, e26_48, e26_49, e26_50, e26_51, e26_54, e26_57, e26_58, e26_59, e26_61, e26_62, e26_64, e26_67, e26_68, e26_70, e26_73, e26_76, e26_77, e26_79, e26_80, e26_82, e26_85, e26_86, e26_89, e26_90, e26_93, h1, h2, hs, gf3_0 kd61, gf6_7 kd4, gaR21 kd6 (inB_J (show i < 8 by omega) (by omega)), J_tn (show i < 2147483648 by omega), isO4, isO61, s45 kd4, bi_t (isShip_J H.hn h8 hi), e, i1_0, aft_v, aft_n, Option.bind_some, rf_some, ck_i, ck_r, ck_n, nb0, nb1, nbi, Nat.reduceAdd, if_true, if_false, not_false_eq_true, not_true_eq_false]
  · rw [if_neg q] at e ⊢
    simp only [↓reduceIte, e26_0, e26_1, e26_3, e26_6, e26_7, e26_10, e26_11, e26_12, e26_13, e26_14, e26_16, e26_19, e26_20, e26_23, e26_24, e26_26, e26_27, e26_30, e26_31, e26_32, e26_33, e26_35, e26_36, e26_37, e26_38, e26_41, e26_42, e26_45, e26_48, e26_49, e26_50, e26_51, e26_54, e26_57, e26_58, e26_59, e26_61, e26_62, e26_64, e26_67, e26_68, e26_70, e26_73, e26_76, e26_77, e26_79, e26_80, e26_82, e26_85, e26_86, e26_89, e26_90, e26_93, h1, h2, hs, gf3_0 kd61, gf6_7 kd4, gaR21 kd6 (inB_J (show i < 8 by omega) (by omega)), J_tn (show i < 2147483648 by omega), isO4, isO61, s45 kd4, bi_t (isShip_J H.hn h8 hi), e, i1_0, aft_v, aft_n, Option.bind_some, rf_some, ck_i, ck_r, ck_n, nb0, nb1, nbi, Nat.reduceAdd, if_true, if_false, not_false_eq_true, not_true_eq_false]
theorem s26_t (H : Ok α n) (f c : Int32) (h1 : ¬ f = 101) (h2 : ¬ f = 119) (h3 : ¬ c = 97) {i : Nat} (hi : i < n) (hs : f - 48 = J i) : Run 26 0 [some (.ref (61)), some (.int (f)), some (.int (c)), none, none] [] (HC z α π β η o od) = if canSwingC α i (bi (c = 114)) then some (.inl (some (.int (1))), (HC z (swingC α (7 + i) (J (hdN (hdA α (7 + i)) (bi (c = 114))))) π β η o od)) else some (.inl (some (.int (0))), (HC z α π β η o od)) := by
  have h8 := H.n8
  have hr : bi (c = 114) = 0 ∨ bi (c = 114) = 1 := by unfold bi; split; exact Or.inr rfl; exact Or.inl rfl
  have e : Run 28 0 [some (.ref (61)), some (.ref (7 + i)), some (.int (bi (c = 114)))] [] (HC z α π β η o od) = _ := s28 H hi hr
  by_cases q : canSwingC α i (bi (c = 114))
  · rw [if_pos q] at e ⊢
    by_cases w : c = 114
    · rw [bi_t w] at e ⊢
      simp only [↓reduceIte, e26_0, e26_1, e26_3, e26_6, e26_7, e26_10, e26_11, e26_12, e26_13, e26_14, e26_16, e26_19, e26_20, e26_23, e26_24, e26_26, e26_27, e26_30, e26_31, e26_32, e26_33, e26_35, e26_36, e26_37, e26_38, e26_41, e26_42, e26_45, e26_48, e26_49, e26_50, e26_51, e26_54, e26_57, e26_58, e26_59, e26_61, e26_62, e26_64, e26_67, e26_68, e26_70, e26_73, e26_76, e26_77, e26_79, e26_80, e26_82, e26_85, e26_86, e26_89, e26_90, e26_93, h1, h2, h3, w, hs, gf3_0 kd61, gf6_7 kd4, gaR21 kd6 (inB_J (show i < 8 by omega) (by omega)), J_tn (show i < 2147483648 by omega), isO4, isO61, s45 kd4, bi_t (isShip_J H.hn h8 hi), e, i1_0, show ((114 : Int32) = 97) = False from eq_false (by decide), aft_v, aft_n, Option.bind_some, rf_some, ck_i, ck_r, ck_n, nb0, nb1, nbi, Nat.reduceAdd, if_true, if_false, not_false_eq_true, not_true_eq_false]
    · rw [bi_f w] at e ⊢
      simp only [↓reduceIte, e26_0, e26_1, e26_3, e26_6, e26_7, e26_10, e26_11, e26_12, e26_13, e26_14, e26_16, e26_19, e26_20, e26_23, e26_24, e26_26, e26_27, e26_30, e26_31, e26_32, e26_33, e26_35, e26_36, e26_37, e26_38, e26_41, e26_42, e26_45, e26_48, e26_49, e26_50, e26_51, e26_54, e26_57, e26_58, e26_59, e26_61, e26_62, e26_64, e26_67, e26_68, e26_70, e26_73, e26_76, e26_77, e26_79, e26_80, e26_82, e26_85, e26_86, e26_89, e26_90, e26_93, h1, h2, h3, w, hs, gf3_0 kd61, gf6_7 kd4, gaR21 kd6 (inB_J (show i < 8 by omega) (by omega)), J_tn (show i < 2147483648 by omega), isO4, isO61, s45 kd4, bi_t (isShip_J H.hn h8 hi), e, i1_0, aft_v, aft_n, Option.bind_some, rf_some, ck_i, ck_r, ck_n, nb0, nb1, nbi, Nat.reduceAdd, if_true, if_false, not_false_eq_true, not_true_eq_false]
  · rw [if_neg q] at e ⊢
    by_cases w : c = 114
    · rw [bi_t w] at e
      simp only [↓reduceIte, e26_0, e26_1, e26_3, e26_6, e26_7, e26_10, e26_11, e26_12, e26_13, e26_14, e26_16, e26_19, e26_20, e26_23, e26_24, e26_26, e26_27, e26_30, e26_31, e26_32, e26_33, e26_35, e26_36, e26_37, e26_38, e26_41, e26_42, e26_45, e26_48, e26_49, e26_50, e26_51, e26_54, e26_57, e26_58, e26_59, e26_61, e26_62, e26_64, e26_67, e26_68, e26_70, e26_73, e26_76, e26_77, e26_79, e26_80, e26_82, e26_85, e26_86, e26_89, e26_90, e26_93, h1, h2, h3, w, hs, gf3_0 kd61, gf6_7 kd4, gaR21 kd6 (inB_J (show i < 8 by omega) (by omega)), J_tn (show i < 2147483648 by omega), isO4, isO61, s45 kd4, bi_t (isShip_J H.hn h8 hi), e, i1_0, show ((114 : Int32) = 97) = False from eq_false (by decide), aft_v, aft_n, Option.bind_some, rf_some, ck_i, ck_r, ck_n, nb0, nb1, nbi, Nat.reduceAdd, if_true, if_false, not_false_eq_true, not_true_eq_false]
    · rw [bi_f w] at e
      simp only [↓reduceIte, e26_0, e26_1, e26_3, e26_6, e26_7, e26_10, e26_11, e26_12, e26_13, e26_14, e26_16, e26_19, e26_20, e26_23, e26_24, e26_26, e26_27, e26_30, e26_31, e26_32, e26_33, e26_35, e26_36, e26_37, e26_38, e26_41, e26_42, e26_45, e26_48, e26_49, e26_50, e26_51, e26_54, e26_57, e26_58, e26_59, e26_61, e26_62, e26_64, e26_67, e26_68, e26_70, e26_73, e26_76, e26_77, e26_79, e26_80, e26_82, e26_85, e26_86, e26_89, e26_90, e26_93, h1, h2, h3, w, hs, gf3_0 kd61, gf6_7 kd4, gaR21 kd6 (inB_J (show i < 8 by omega) (by omega)), J_tn (show i < 2147483648 by omega), isO4, isO61, s45 kd4, bi_t (isShip_J H.hn h8 hi), e, i1_0, aft_v, aft_n, Option.bind_some, rf_some, ck_i, ck_r, ck_n, nb0, nb1, nbi, Nat.reduceAdd, if_true, if_false, not_false_eq_true, not_true_eq_false]
end S33
