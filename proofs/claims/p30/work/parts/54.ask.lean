theorem in_J {w : Int32} {m : Nat} (hm : m < 1000) (h : ¬ w < 0 ∧ ¬ J m < w) : ∃ j, j < m + 1 ∧ w = J j := by
  have h1 := h.1; have h2 := h.2
  rw [i32_lt, ti0] at h1; rw [i32_lt, J_ti (by omega)] at h2
  exact J_rng (by omega) (by omega)
section S54
variable {z : Zr} {α β γ : Mem} {π : Nat → Nat} {η : Int64} {o : Nat → Int64} {od : Nat → UInt64} {n l k : Nat}
theorem isO62' : isO (HC z α π β η o od) 62 2 = true := isO62
theorem mh88 : mHh 88 = [] := rfl
theorem mh89 : mHh 89 = [] := rfl
theorem mh90 : mHh 90 = [] := rfl
theorem mh91 : mHh 91 = [] := rfl
theorem s87 (H : Ok α n) {m : Nat} (hm : m < 10) : Run 87 0 [some (.ref (3)), some (.int (J m))] [] (HC z α π β η o od) = some (.inl (some (.int (valC α n m))), (HC z α π β η o od)) := by
  simp only [↓reduceIte, e87_0, e87_1, e87_4, e87_5, e87_7, e87_10, e87_20, e87_21, e87_24, e87_25, e87_28, gf8_0 kd3, isO4, J0, (show (9 : Int32) = J 9 from rfl), J_lt (show m < 2147483648 by omega) (show 0 < 2147483648 by omega), J_le (show m < 2147483648 by omega) (show 9 < 2147483648 by omega), show ¬ m < 0 by omega, show m ≤ 9 by omega, s68 H hm, aft_v, aft_n, Option.bind_some, rf_some, ck_i, ck_r, ck_n, nb0, nb1, nbi, Nat.reduceAdd, if_true, if_false, not_false_eq_true, not_true_eq_false]
theorem s87n {w : Int32} (h : ¬ (¬ w < 0 ∧ ¬ 9 < w)) : Run 87 0 [some (.ref (3)), some (.int (w))] [] (HC z α π β η o od) = some (.inr "java/lang/IllegalArgumentException", HC (zb z) α π β η o od) := by
  by_cases q : w < 0
  · simp only [↓reduceIte, e87_0, e87_1, e87_4, e87_5, e87_7, e87_10, e87_20, e87_21, e87_24, e87_25, e87_28, q, hb_HC, aft_v, aft_n, Option.bind_some, rf_some, ck_i, ck_r, ck_n, nb0, nb1, nbi, Nat.reduceAdd, if_true, if_false, not_false_eq_true, not_true_eq_false]
  · have q2 : 9 < w := by by_cases x : 9 < w; exact x; exact absurd ⟨q, x⟩ h
    simp only [↓reduceIte, e87_0, e87_1, e87_4, e87_5, e87_7, e87_10, e87_20, e87_21, e87_24, e87_25, e87_28, q, q2, le_not, hb_HC, aft_v, aft_n, Option.bind_some, rf_some, ck_i, ck_r, ck_n, nb0, nb1, nbi, Nat.reduceAdd, if_true, if_false, not_false_eq_true, not_true_eq_false]
theorem s88 (H : Ok α n) {i : Nat} (hi : i < n) {m : Nat} (hm : m < 15) : Run 88 0 [some (.ref (3)), some (.int (J i)), some (.int (J m))] [] (HC z α π β η o od) = some (.inl (some (.int (shpC α (7 + i) (hdA α (7 + i)) (wdN α) m))), (HC z α π β η o od)) := by
  have h8 := H.n8
  have hd := H.hdJ hi
  have hw := H.wdJ
  simp only [↓reduceIte, e88_0, e88_1, e88_2, e88_5, e88_6, e88_9, e88_10, e88_12, e88_15, e88_25, e88_26, e88_29, e88_30, e88_33, e88_36, e88_37, e88_38, e88_39, e88_42, isO3, s110 _ (isShip_J H.hn h8 hi), gf8_0 kd3, gf6_7 kd4, gaR21 kd6 (inB_J (show i < 8 by omega) (by omega)), J_tn (show i < 2147483648 by omega), isO4, J0, (show (14 : Int32) = J 14 from rfl), J_lt (show m < 2147483648 by omega) (show 0 < 2147483648 by omega), J_le (show m < 2147483648 by omega) (show 14 < 2147483648 by omega), show ¬ m < 0 by omega, show m ≤ 14 by omega, s69 (kd_ship (show i < 8 by omega)) hd.1 hw.1 hd.2 hw.2 (H.bo i hi) hm, aft_v, aft_n, Option.bind_some, rf_some, ck_i, ck_r, ck_n, nb0, nb1, nbi, Nat.reduceAdd, if_true, if_false, not_false_eq_true, not_true_eq_false]
theorem s88n {c w : Int32} (h : ¬ isShipC α 4 c) : Run 88 0 [some (.ref (3)), some (.int (c)), some (.int (w))] [] (HC z α π β η o od) = some (.inr "java/lang/IndexOutOfBoundsException", HC (zb z) α π β η o od) := by
  simp only [↓reduceIte, e88_0, e88_1, e88_2, e88_5, e88_6, e88_9, e88_10, e88_12, e88_15, e88_25, e88_26, e88_29, e88_30, e88_33, e88_36, e88_37, e88_38, e88_39, e88_42, isO3, s110n _ h, aft_x mh88, aft_v, aft_n, Option.bind_some, rf_some, ck_i, ck_r, ck_n, nb0, nb1, nbi, Nat.reduceAdd, if_true, if_false, not_false_eq_true, not_true_eq_false]
theorem s88m {c w : Int32} (h : isShipC α 4 c) (h2 : ¬ (¬ w < 0 ∧ ¬ 14 < w)) : Run 88 0 [some (.ref (3)), some (.int (c)), some (.int (w))] [] (HC z α π β η o od) = some (.inr "java/lang/IllegalArgumentException", HC (zb z) α π β η o od) := by
  by_cases q : w < 0
  · simp only [↓reduceIte, e88_0, e88_1, e88_2, e88_5, e88_6, e88_9, e88_10, e88_12, e88_15, e88_25, e88_26, e88_29, e88_30, e88_33, e88_36, e88_37, e88_38, e88_39, e88_42, isO3, s110 _ h, q, hb_HC, aft_v, aft_n, Option.bind_some, rf_some, ck_i, ck_r, ck_n, nb0, nb1, nbi, Nat.reduceAdd, if_true, if_false, not_false_eq_true, not_true_eq_false]
  · have q2 : 14 < w := by by_cases x : 14 < w; exact x; exact absurd ⟨q, x⟩ h2
    simp only [↓reduceIte, e88_0, e88_1, e88_2, e88_5, e88_6, e88_9, e88_10, e88_12, e88_15, e88_25, e88_26, e88_29, e88_30, e88_33, e88_36, e88_37, e88_38, e88_39, e88_42, isO3, s110 _ h, q, q2, le_not, hb_HC, aft_v, aft_n, Option.bind_some, rf_some, ck_i, ck_r, ck_n, nb0, nb1, nbi, Nat.reduceAdd, if_true, if_false, not_false_eq_true, not_true_eq_false]
theorem s89 (H : Ok α n) {c : Int32} (h : isCellC α 4 c) : Run 89 0 [some (.ref (3)), some (.int (c))] [] (HC z α π β η o od) = some (.inl (some (.int (thingC α n c))), (HC z α π β η o od)) := by
  simp only [↓reduceIte, e89_0, e89_1, e89_2, e89_5, e89_6, e89_9, e89_10, e89_13, isO3, s109 _ h, gf8_0 kd3, isO4, s52 H, aft_v, aft_n, Option.bind_some, rf_some, ck_i, ck_r, ck_n, nb0, nb1, nbi, Nat.reduceAdd, if_true, if_false, not_false_eq_true, not_true_eq_false]
theorem s89n {c : Int32} (h : ¬ isCellC α 4 c) : Run 89 0 [some (.ref (3)), some (.int (c))] [] (HC z α π β η o od) = some (.inr "java/lang/IndexOutOfBoundsException", HC (zb z) α π β η o od) := by
  simp only [↓reduceIte, e89_0, e89_1, e89_2, e89_5, e89_6, e89_9, e89_10, e89_13, isO3, s109n _ h, aft_x mh89, aft_v, aft_n, Option.bind_some, rf_some, ck_i, ck_r, ck_n, nb0, nb1, nbi, Nat.reduceAdd, if_true, if_false, not_false_eq_true, not_true_eq_false]
theorem s90 (H : Ok α n) {a b : Int32} (h : isCellC α 4 a ∧ isCellC α 4 b) : Run 90 0 [some (.ref (3)), some (.int (a)), some (.int (b))] [] (HC z α π β η o od) = some (.inl (some (.int (frC α a b))), (HC z α π β η o od)) := by
  simp only [↓reduceIte, e90_0, e90_1, e90_2, e90_5, e90_6, e90_7, e90_10, e90_11, e90_14, e90_15, e90_16, e90_19, isO3, s109 _ h.1, s109 _ h.2, gf8_0 kd3, isO4, t54 H, aft_v, aft_n, Option.bind_some, rf_some, ck_i, ck_r, ck_n, nb0, nb1, nbi, Nat.reduceAdd, if_true, if_false, not_false_eq_true, not_true_eq_false]
theorem s90n {a b : Int32} (h : ¬ (isCellC α 4 a ∧ isCellC α 4 b)) : Run 90 0 [some (.ref (3)), some (.int (a)), some (.int (b))] [] (HC z α π β η o od) = some (.inr "java/lang/IndexOutOfBoundsException", HC (zb z) α π β η o od) := by
  by_cases q : isCellC α 4 a
  · have q2 : ¬ isCellC α 4 b := fun w => h ⟨q, w⟩
    simp only [↓reduceIte, e90_0, e90_1, e90_2, e90_5, e90_6, e90_7, e90_10, e90_11, e90_14, e90_15, e90_16, e90_19, isO3, s109 _ q, s109n _ q2, aft_x mh90, aft_v, aft_n, Option.bind_some, rf_some, ck_i, ck_r, ck_n, nb0, nb1, nbi, Nat.reduceAdd, if_true, if_false, not_false_eq_true, not_true_eq_false]
  · simp only [↓reduceIte, e90_0, e90_1, e90_2, e90_5, e90_6, e90_7, e90_10, e90_11, e90_14, e90_15, e90_16, e90_19, isO3, s109n _ q, aft_x mh90, aft_v, aft_n, Option.bind_some, rf_some, ck_i, ck_r, ck_n, nb0, nb1, nbi, Nat.reduceAdd, if_true, if_false, not_false_eq_true, not_true_eq_false]
theorem s91 (H : Ok α n) {a b : Int32} (h : isCellC α 4 a ∧ isCellC α 4 b) : Run 91 0 [some (.ref (3)), some (.int (a)), some (.int (b))] [] (HC z α π β η o od) = some (.inl (some (.int (sgC α a b))), (HC z α π β η o od)) := by
  simp only [↓reduceIte, e91_0, e91_1, e91_2, e91_5, e91_6, e91_7, e91_10, e91_11, e91_14, e91_15, e91_16, e91_19, isO3, s109 _ h.1, s109 _ h.2, gf8_0 kd3, isO4, t55 H, aft_v, aft_n, Option.bind_some, rf_some, ck_i, ck_r, ck_n, nb0, nb1, nbi, Nat.reduceAdd, if_true, if_false, not_false_eq_true, not_true_eq_false]
theorem s91n {a b : Int32} (h : ¬ (isCellC α 4 a ∧ isCellC α 4 b)) : Run 91 0 [some (.ref (3)), some (.int (a)), some (.int (b))] [] (HC z α π β η o od) = some (.inr "java/lang/IndexOutOfBoundsException", HC (zb z) α π β η o od) := by
  by_cases q : isCellC α 4 a
  · have q2 : ¬ isCellC α 4 b := fun w => h ⟨q, w⟩
    simp only [↓reduceIte, e91_0, e91_1, e91_2, e91_5, e91_6, e91_7, e91_10, e91_11, e91_14, e91_15, e91_16, e91_19, isO3, s109 _ q, s109n _ q2, aft_x mh91, aft_v, aft_n, Option.bind_some, rf_some, ck_i, ck_r, ck_n, nb0, nb1, nbi, Nat.reduceAdd, if_true, if_false, not_false_eq_true, not_true_eq_false]
  · simp only [↓reduceIte, e91_0, e91_1, e91_2, e91_5, e91_6, e91_7, e91_10, e91_11, e91_14, e91_15, e91_16, e91_19, isO3, s109n _ q, aft_x mh91, aft_v, aft_n, Option.bind_some, rf_some, ck_i, ck_r, ck_n, nb0, nb1, nbi, Nat.reduceAdd, if_true, if_false, not_false_eq_true, not_true_eq_false]
end S54
section S54m
variable {z : Zr} {α β γ : Mem} {π : Nat → Nat} {η : Int64} {o : Nat → Int64} {od : Nat → UInt64} {n l k : Nat}
end S54m
section S54o
variable {z : Zr} {α β γ : Mem} {π : Nat → Nat} {η : Int64} {o : Nat → Int64} {od : Nat → UInt64} {n l k : Nat}
end S54o
