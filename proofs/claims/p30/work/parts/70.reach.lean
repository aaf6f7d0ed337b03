/-! the model: what can be reached; the calls reach and pointsAt -/
theorem J1728 : (1728 : Int32) = J 1728 := rfl
section S70
variable {z : Zr} {α β γ : Mem} {π : Nat → Nat} {η : Int64} {o : Nat → Int64} {od : Nat → UInt64} {n k : Nat}
end S70
section S70o
variable {z : Zr} {α β γ : Mem} {π : Nat → Nat} {η : Int64} {o : Nat → Int64} {od : Nat → UInt64} {n l k : Nat}
theorem mh100 : mHh 100 = [] := rfl
theorem mh101 : mHh 101 = [] := rfl
theorem s100 (H : Ok α n) {i : Nat} (hi : i < n) : ∃ α' r, Run 100 0 [some (.ref (3)), some (.int (J i))] [] (HC z α π β η o od) = some (.inl (some (.int (r))), (HC z α' π β η o od)) ∧ Fc α α' ∧ RV α n i r := by
  have h8 := H.n8
  obtain ⟨α', r, f1, f2, f3⟩ := s1 (z := z) (β := β) (π := π) (η := η) (o := o) (od := od) H hi
  refine ⟨α', r, ?_, f2, f3⟩
  simp only [↓reduceIte, e100_0, e100_1, e100_2, e100_5, e100_6, e100_9, e100_10, e100_13, e100_16, e100_17, e100_18, e100_21, isO3, s110 _ (isShip_J H.hn H.n8 hi), gf8_0 kd3, gf8_5 kd3, gf6_7 kd4, gaR21 kd6 (inB_J (show i < 8 by omega) (by omega)), J_tn (show i < 2147483648 by omega), isO_HC kd64 (show 0 ≤ 9 by decide), f1, aft_v, aft_n, Option.bind_some, rf_some, ck_i, ck_r, ck_n, nb0, nb1, nbi, Nat.reduceAdd, if_true, if_false, not_false_eq_true, not_true_eq_false]
theorem s100n {c : Int32} (h : ¬ isShipC α 4 c) : Run 100 0 [some (.ref (3)), some (.int (c))] [] (HC z α π β η o od) = some (.inr "java/lang/IndexOutOfBoundsException", HC (zb z) α π β η o od) := by
  simp only [↓reduceIte, e100_0, e100_1, e100_2, e100_5, e100_6, e100_9, e100_10, e100_13, e100_16, e100_17, e100_18, e100_21, isO3, s110n _ h, aft_x mh100, aft_v, aft_n, Option.bind_some, rf_some, ck_i, ck_r, ck_n, nb0, nb1, nbi, Nat.reduceAdd, if_true, if_false, not_false_eq_true, not_true_eq_false]
theorem s101 (H : Ok α n) {i : Nat} (hi : i < n) {x : Nat} (hx : x < 144) (hc : isCellC α 4 (J x)) : ∃ α' r, Run 101 0 [some (.ref (3)), some (.int (J i)), some (.int (J x))] [] (HC z α π β η o od) = some (.inl (some (.int (r))), (HC z α' π β η o od)) ∧ Fc α α' ∧ PV α n i x r := by
  have h8 := H.n8
  obtain ⟨α', r, f1, f2, f3⟩ := s2 (z := z) (β := β) (π := π) (η := η) (o := o) (od := od) H hi hx hc
  refine ⟨α', r, ?_, f2, f3⟩
  simp only [↓reduceIte, e101_0, e101_1, e101_2, e101_5, e101_6, e101_7, e101_10, e101_11, e101_14, e101_15, e101_18, e101_21, e101_22, e101_23, e101_24, e101_27, isO3, s110 _ (isShip_J H.hn H.n8 hi), gf8_0 kd3, gf8_5 kd3, gf6_7 kd4, gaR21 kd6 (inB_J (show i < 8 by omega) (by omega)), J_tn (show i < 2147483648 by omega), isO_HC kd64 (show 0 ≤ 9 by decide), s109 _ hc, f1, aft_v, aft_n, Option.bind_some, rf_some, ck_i, ck_r, ck_n, nb0, nb1, nbi, Nat.reduceAdd, if_true, if_false, not_false_eq_true, not_true_eq_false]
theorem s101n {c x : Int32} (h : ¬ (isShipC α 4 c ∧ isCellC α 4 x)) : Run 101 0 [some (.ref (3)), some (.int (c)), some (.int (x))] [] (HC z α π β η o od) = some (.inr "java/lang/IndexOutOfBoundsException", HC (zb z) α π β η o od) := by
  by_cases q : isShipC α 4 c
  · have q2 : ¬ isCellC α 4 x := fun w => h ⟨q, w⟩
    simp only [↓reduceIte, e101_0, e101_1, e101_2, e101_5, e101_6, e101_7, e101_10, e101_11, e101_14, e101_15, e101_18, e101_21, e101_22, e101_23, e101_24, e101_27, isO3, s110 _ q, s109n _ q2, aft_x mh101, aft_v, aft_n, Option.bind_some, rf_some, ck_i, ck_r, ck_n, nb0, nb1, nbi, Nat.reduceAdd, if_true, if_false, not_false_eq_true, not_true_eq_false]
  · simp only [↓reduceIte, e101_0, e101_1, e101_2, e101_5, e101_6, e101_7, e101_10, e101_11, e101_14, e101_15, e101_18, e101_21, e101_22, e101_23, e101_24, e101_27, isO3, s110n _ q, aft_x mh101, aft_v, aft_n, Option.bind_some, rf_some, ck_i, ck_r, ck_n, nb0, nb1, nbi, Nat.reduceAdd, if_true, if_false, not_false_eq_true, not_true_eq_false]
theorem Fs_fc {α α' : Mem} (h : Fc α α') : Fs α α' := fun j _ w => h j w
end S70o
