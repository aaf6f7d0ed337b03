/-! the law's wrappers, whatever the class' method answers; tests of arguments -/
def zb (z : Zr) : Zr := (z.1 + 1, z.2.1 + 6, z.2.2)
theorem hb_HC (z : Zr) (α : Mem) (π : Nat → Nat) (β : Mem) (η : Int64) (o : Nat → Int64) (od : Nat → UInt64) : hbump (HC z α π β η o od) = HC (zb z) α π β η o od := rfl
theorem aft_h {m pc pc' : Nat} {L : Lo} {S : List Value} {E : String} {h : Hp} (hp q : Nat) (L' : Lo) (h1 : hnd (mHh m) pc E = some hp) (h2 : afterH m hp L = some (q, L')) : aft m pc pc' L S (.inr E, h) = Run m q L' [] h := by
  unfold aft
  dsimp only
  rw [h1]
  dsimp only
  rw [h2]
  rfl
theorem kd3 : kd 3 = 8 := by decide
section S53
variable {z : Zr} {α β γ : Mem} {π : Nat → Nat} {η : Int64} {o : Nat → Int64} {od : Nat → UInt64} {n l k : Nat} {z' : Zr} {α' β' : Mem} {π' : Nat → Nat}
theorem isO3 : isO (HC z α π β η o od) 3 8 = true := isO_HC kd3 (by decide)
theorem isO15' : isO (HC z α π β η o od) 15 4 = true := isO_HC kd15 (by decide)
theorem s109 (c : Int32) (h : isCellC α 4 c) : Run 109 0 [some (.ref (3)), some (.int (c))] [] (HC z α π β η o od) = some (.inl none, (HC z α π β η o od)) := by
  simp only [↓reduceIte, e109_0, e109_1, e109_4, e109_5, e109_8, e109_11, e109_22, gf8_0 kd3, isO4, s44 kd4, bi_t h, i1_0, aft_v, aft_n, Option.bind_some, rf_some, ck_i, ck_r, ck_n, nb0, nb1, nbi, Nat.reduceAdd, if_true, if_false, not_false_eq_true, not_true_eq_false]
theorem s109n (c : Int32) (h : ¬ isCellC α 4 c) : Run 109 0 [some (.ref (3)), some (.int (c))] [] (HC z α π β η o od) = some (.inr "java/lang/IndexOutOfBoundsException", HC (zb z) α π β η o od) := by
  simp only [↓reduceIte, e109_0, e109_1, e109_4, e109_5, e109_8, e109_11, e109_22, gf8_0 kd3, isO4, s44 kd4, bi_f h, hb_HC, aft_v, aft_n, Option.bind_some, rf_some, ck_i, ck_r, ck_n, nb0, nb1, nbi, Nat.reduceAdd, if_true, if_false, not_false_eq_true, not_true_eq_false]
theorem s110 (c : Int32) (h : isShipC α 4 c) : Run 110 0 [some (.ref (3)), some (.int (c))] [] (HC z α π β η o od) = some (.inl none, (HC z α π β η o od)) := by
  simp only [↓reduceIte, e110_0, e110_1, e110_4, e110_5, e110_8, e110_11, e110_22, gf8_0 kd3, isO4, s45 kd4, bi_t h, i1_0, aft_v, aft_n, Option.bind_some, rf_some, ck_i, ck_r, ck_n, nb0, nb1, nbi, Nat.reduceAdd, if_true, if_false, not_false_eq_true, not_true_eq_false]
theorem s110n (c : Int32) (h : ¬ isShipC α 4 c) : Run 110 0 [some (.ref (3)), some (.int (c))] [] (HC z α π β η o od) = some (.inr "java/lang/IndexOutOfBoundsException", HC (zb z) α π β η o od) := by
  simp only [↓reduceIte, e110_0, e110_1, e110_4, e110_5, e110_8, e110_11, e110_22, gf8_0 kd3, isO4, s45 kd4, bi_f h, hb_HC, aft_v, aft_n, Option.bind_some, rf_some, ck_i, ck_r, ck_n, nb0, nb1, nbi, Nat.reduceAdd, if_true, if_false, not_false_eq_true, not_true_eq_false]
theorem mh111 : mHh 111 = [] := rfl
theorem s111 (a b : Int32) (h : isShipC α 4 a) (h2 : isShipC α 4 b) (h3 : ¬ a = b) : Run 111 0 [some (.ref (3)), some (.int (a)), some (.int (b))] [] (HC z α π β η o od) = some (.inl none, (HC z α π β η o od)) := by
  simp only [↓reduceIte, e111_0, e111_1, e111_2, e111_5, e111_6, e111_7, e111_10, e111_11, e111_12, e111_15, e111_26, isO3, s110 a h, s110 b h2, h3, aft_v, aft_n, Option.bind_some, rf_some, ck_i, ck_r, ck_n, nb0, nb1, nbi, Nat.reduceAdd, if_true, if_false, not_false_eq_true, not_true_eq_false]
theorem s111n (a b : Int32) (h : ¬ (isShipC α 4 a ∧ isShipC α 4 b)) : Run 111 0 [some (.ref (3)), some (.int (a)), some (.int (b))] [] (HC z α π β η o od) = some (.inr "java/lang/IndexOutOfBoundsException", HC (zb z) α π β η o od) := by
  by_cases q : isShipC α 4 a
  · have q2 : ¬ isShipC α 4 b := fun w => h ⟨q, w⟩
    simp only [↓reduceIte, e111_0, e111_1, e111_2, e111_5, e111_6, e111_7, e111_10, e111_11, e111_12, e111_15, e111_26, isO3, s110 a q, s110n b q2, aft_x mh111, aft_v, aft_n, Option.bind_some, rf_some, ck_i, ck_r, ck_n, nb0, nb1, nbi, Nat.reduceAdd, if_true, if_false, not_false_eq_true, not_true_eq_false]
  · simp only [↓reduceIte, e111_0, e111_1, e111_2, e111_5, e111_6, e111_7, e111_10, e111_11, e111_12, e111_15, e111_26, isO3, s110n a q, aft_x mh111, aft_v, aft_n, Option.bind_some, rf_some, ck_i, ck_r, ck_n, nb0, nb1, nbi, Nat.reduceAdd, if_true, if_false, not_false_eq_true, not_true_eq_false]
theorem s111e (a : Int32) (h : isShipC α 4 a) : Run 111 0 [some (.ref (3)), some (.int (a)), some (.int (a))] [] (HC z α π β η o od) = some (.inr "java/lang/IllegalArgumentException", HC (zb z) α π β η o od) := by
  simp only [↓reduceIte, e111_0, e111_1, e111_2, e111_5, e111_6, e111_7, e111_10, e111_11, e111_12, e111_15, e111_26, isO3, s110 a h, hb_HC, aft_v, aft_n, Option.bind_some, rf_some, ck_i, ck_r, ck_n, nb0, nb1, nbi, Nat.reduceAdd, if_true, if_false, not_false_eq_true, not_true_eq_false]
abbrev sideC (x : Int32) : Prop := x = 0 ∨ x = 1
theorem s112 (x : Int32) : Run 112 0 [some (.int (x))] [] (HC z α π β η o od) = some (.inl (some (.int (bi (sideC x)))), (HC z α π β η o od)) := by
  unfold sideC bi
  by_cases q : x = 0 <;> by_cases q2 : x = 1 <;> simp only [↓reduceIte, e112_0, e112_1, e112_4, e112_5, e112_6, e112_9, e112_10, e112_13, e112_14, q, q2, i1_0, ln0_1, or_true, true_or, or_false, false_or, aft_v, aft_n, Option.bind_some, rf_some, ck_i, ck_r, ck_n, nb0, nb1, nbi, Nat.reduceAdd, if_true, if_false, not_false_eq_true, not_true_eq_false]
abbrev dirC (x : Int32) : Prop := ¬ x < 0 ∧ ¬ 5 < x
theorem dir_6 (x : Int32) : (6 ≤ x) = (5 < x) := by
  have t6 : (6 : Int32).toInt = 6 := rfl
  have t5 : (5 : Int32).toInt = 5 := rfl
  apply propext; rw [i32_le, i32_lt, t6, t5]; omega
theorem s113 (x : Int32) : Run 113 0 [some (.int (x))] [] (HC z α π β η o od) = some (.inl (some (.int (bi (dirC x)))), (HC z α π β η o od)) := by
  unfold dirC bi
  by_cases q : x < 0 <;> by_cases q2 : 5 < x <;> simp only [↓reduceIte, e113_0, e113_1, e113_4, e113_5, e113_7, e113_10, e113_11, e113_14, e113_15, q, q2, dir_6, and_true, and_false, true_and, false_and, aft_v, aft_n, Option.bind_some, rf_some, ck_i, ck_r, ck_n, nb0, nb1, nbi, Nat.reduceAdd, if_true, if_false, not_false_eq_true, not_true_eq_false]
end S53
