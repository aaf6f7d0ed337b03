/-! SPECS of the class: the present sea is right; neighbours, distances, sights, wind -/
def Ok (α : Mem) (n : Nat) : Prop :=
  (4 ≤ (α 4 0).toInt ∧ (α 4 0).toInt ≤ 12) ∧
  (4 ≤ (α 4 1).toInt ∧ (α 4 1).toInt ≤ 12) ∧
  (∃ e, e < 6 ∧ α 4 2 = J e) ∧
  (0 ≤ (α 4 3).toInt ∧ (α 4 3).toInt ≤ 3) ∧
  (n ≤ 8) ∧
  (α 4 5 = J n) ∧
  (∀ c, c < 144 → α 5 c = 0 ∨ α 5 c = 1) ∧
  (∀ i, i < n → α (7 + i) 0 = 0 ∨ α (7 + i) 0 = 1) ∧
  (∀ i, i < n → 0 ≤ (α (7 + i) 1).toInt ∧ (α (7 + i) 1).toInt < (α 4 0).toInt * (α 4 1).toInt) ∧
  (∀ i, i < n → ∃ e, e < 6 ∧ α (7 + i) 2 = J e) ∧
  (∀ i, i < n → 0 ≤ (α (7 + i) 3).toInt ∧ (α (7 + i) 3).toInt ≤ 60) ∧
  (∀ i, i < n → 0 ≤ (α (7 + i) 4).toInt ∧ (α (7 + i) 4).toInt ≤ 20) ∧
  (∀ i, i < n → 0 ≤ (α (7 + i) 5).toInt ∧ (α (7 + i) 5).toInt ≤ 12) ∧
  (∀ i, i < n → 0 ≤ (α (7 + i) 6).toInt ∧ (α (7 + i) 6).toInt ≤ 12) ∧
  (∀ i, i < n → 1 ≤ (α (7 + i) 7).toInt ∧ (α (7 + i) 7).toInt ≤ 60) ∧
  (∀ i, i < n → 1 ≤ (α (7 + i) 8).toInt ∧ (α (7 + i) 8).toInt ≤ 60) ∧
  (∀ i, i < n → 0 ≤ (α (7 + i) 9).toInt ∧ (α (7 + i) 9).toInt ≤ 9) ∧
  (∀ i, i < n → 0 ≤ (α (7 + i) 10).toInt ∧ (α (7 + i) 10).toInt ≤ 2) ∧
  (∀ i, i < n → 0 ≤ (α (7 + i) 11).toInt ∧ (α (7 + i) 11).toInt ≤ 2) ∧
  (∀ i, i < n → α (7 + i) 12 = -1 ∨ ∃ j, j < n ∧ j ≠ i ∧ α (7 + i) 12 = J j) ∧
  (∀ i, i < n → α (7 + i) 13 = 0 ∨ α (7 + i) 13 = 1) ∧
  (∀ i, i < n → α (7 + i) 14 = 0 ∨ α (7 + i) 14 = 1)
theorem Ok.cols {α : Mem} {n : Nat} (H : Ok α n) : 4 ≤ (α 4 0).toInt ∧ (α 4 0).toInt ≤ 12 := H.1
theorem Ok.rows {α : Mem} {n : Nat} (H : Ok α n) : 4 ≤ (α 4 1).toInt ∧ (α 4 1).toInt ≤ 12 := H.2.1
theorem Ok.wd {α : Mem} {n : Nat} (H : Ok α n) : ∃ e, e < 6 ∧ α 4 2 = J e := H.2.2.1
theorem Ok.ws {α : Mem} {n : Nat} (H : Ok α n) : 0 ≤ (α 4 3).toInt ∧ (α 4 3).toInt ≤ 3 := H.2.2.2.1
theorem Ok.n8 {α : Mem} {n : Nat} (H : Ok α n) : n ≤ 8 := H.2.2.2.2.1
theorem Ok.hn {α : Mem} {n : Nat} (H : Ok α n) : α 4 5 = J n := H.2.2.2.2.2.1
theorem Ok.rk {α : Mem} {n : Nat} (H : Ok α n) : ∀ c, c < 144 → α 5 c = 0 ∨ α 5 c = 1 := H.2.2.2.2.2.2.1
theorem Ok.side {α : Mem} {n : Nat} (H : Ok α n) : ∀ i, i < n → α (7 + i) 0 = 0 ∨ α (7 + i) 0 = 1 := H.2.2.2.2.2.2.2.1
theorem Ok.cell {α : Mem} {n : Nat} (H : Ok α n) : ∀ i, i < n → 0 ≤ (α (7 + i) 1).toInt ∧ (α (7 + i) 1).toInt < (α 4 0).toInt * (α 4 1).toInt := H.2.2.2.2.2.2.2.2.1
theorem Ok.head {α : Mem} {n : Nat} (H : Ok α n) : ∀ i, i < n → ∃ e, e < 6 ∧ α (7 + i) 2 = J e := H.2.2.2.2.2.2.2.2.2.1
theorem Ok.hull {α : Mem} {n : Nat} (H : Ok α n) : ∀ i, i < n → 0 ≤ (α (7 + i) 3).toInt ∧ (α (7 + i) 3).toInt ≤ 60 := H.2.2.2.2.2.2.2.2.2.2.1
theorem Ok.sails {α : Mem} {n : Nat} (H : Ok α n) : ∀ i, i < n → 0 ≤ (α (7 + i) 4).toInt ∧ (α (7 + i) 4).toInt ≤ 20 := H.2.2.2.2.2.2.2.2.2.2.2.1
theorem Ok.gl {α : Mem} {n : Nat} (H : Ok α n) : ∀ i, i < n → 0 ≤ (α (7 + i) 5).toInt ∧ (α (7 + i) 5).toInt ≤ 12 := H.2.2.2.2.2.2.2.2.2.2.2.2.1
theorem Ok.gr {α : Mem} {n : Nat} (H : Ok α n) : ∀ i, i < n → 0 ≤ (α (7 + i) 6).toInt ∧ (α (7 + i) 6).toInt ≤ 12 := H.2.2.2.2.2.2.2.2.2.2.2.2.2.1
theorem Ok.crew {α : Mem} {n : Nat} (H : Ok α n) : ∀ i, i < n → 1 ≤ (α (7 + i) 7).toInt ∧ (α (7 + i) 7).toInt ≤ 60 := H.2.2.2.2.2.2.2.2.2.2.2.2.2.2.1
theorem Ok.first {α : Mem} {n : Nat} (H : Ok α n) : ∀ i, i < n → 1 ≤ (α (7 + i) 8).toInt ∧ (α (7 + i) 8).toInt ≤ 60 := H.2.2.2.2.2.2.2.2.2.2.2.2.2.2.2.1
theorem Ok.pts {α : Mem} {n : Nat} (H : Ok α n) : ∀ i, i < n → 0 ≤ (α (7 + i) 9).toInt ∧ (α (7 + i) 9).toInt ≤ 9 := H.2.2.2.2.2.2.2.2.2.2.2.2.2.2.2.2.1
theorem Ok.wl {α : Mem} {n : Nat} (H : Ok α n) : ∀ i, i < n → 0 ≤ (α (7 + i) 10).toInt ∧ (α (7 + i) 10).toInt ≤ 2 := H.2.2.2.2.2.2.2.2.2.2.2.2.2.2.2.2.2.1
theorem Ok.wr {α : Mem} {n : Nat} (H : Ok α n) : ∀ i, i < n → 0 ≤ (α (7 + i) 11).toInt ∧ (α (7 + i) 11).toInt ≤ 2 := H.2.2.2.2.2.2.2.2.2.2.2.2.2.2.2.2.2.2.1
theorem Ok.part {α : Mem} {n : Nat} (H : Ok α n) : ∀ i, i < n → α (7 + i) 12 = -1 ∨ ∃ j, j < n ∧ j ≠ i ∧ α (7 + i) 12 = J j := H.2.2.2.2.2.2.2.2.2.2.2.2.2.2.2.2.2.2.2.1
theorem Ok.bo {α : Mem} {n : Nat} (H : Ok α n) : ∀ i, i < n → α (7 + i) 13 = 0 ∨ α (7 + i) 13 = 1 := H.2.2.2.2.2.2.2.2.2.2.2.2.2.2.2.2.2.2.2.2.1
theorem Ok.way {α : Mem} {n : Nat} (H : Ok α n) : ∀ i, i < n → α (7 + i) 14 = 0 ∨ α (7 + i) 14 = 1 := H.2.2.2.2.2.2.2.2.2.2.2.2.2.2.2.2.2.2.2.2.2
theorem ti4 : (4 : Int32).toInt = 4 := rfl
theorem ti12 : (12 : Int32).toInt = 12 := rfl
theorem Ok.pos {α : Mem} {n : Nat} (H : Ok α n) : 0 < α 4 0 := by rw [i32_lt, ti0]; have := H.cols.1; omega
theorem Ok.wh {α : Mem} {n : Nat} (H : Ok α n) : (α 4 0 * α 4 1).toInt = (α 4 0).toInt * (α 4 1).toInt ∧ 16 ≤ (α 4 0).toInt * (α 4 1).toInt ∧ (α 4 0).toInt * (α 4 1).toInt ≤ 144 := by
  have h1 := H.cols; have h2 := H.rows
  have a1 : 4 * 4 ≤ (α 4 0).toInt * (α 4 1).toInt := Int.mul_le_mul h1.1 h2.1 (by omega) (by omega)
  have a2 : (α 4 0).toInt * (α 4 1).toInt ≤ 12 * 12 := Int.mul_le_mul h1.2 h2.2 (by omega) (by omega)
  refine ⟨?_, a1, a2⟩
  rw [Int32.toInt_mul]
  exact Int.bmod_eq_of_le (by omega) (by omega)
def rowC (α : Mem) (c : Int32) : Int32 := c / α 4 0
def colC (α : Mem) (c : Int32) : Int32 := c - c / α 4 0 * α 4 0
def absC (x : Int32) : Int32 := if 0 ≤ x then x else -x
def mxC (x w : Int32) : Int32 := if x < w then w else x
def mnC (x w : Int32) : Int32 := if w < x then w else x
def farC (x y : Int32) : Int32 := mxC (absC (x + y)) (mxC (absC x) (absC y))
def sectorC (x y : Int32) : Int32 := if 0 ≤ x ∧ 0 < y then 0 else if y ≤ 0 ∧ 0 < x + y then 1 else if 0 < x then 2 else if y < 0 then 3 else if x + y < 0 then 4 else 5
def sightC (x y : Int32) : Int32 := if x = 0 ∧ y = 0 then -1 else sectorC x y + (if x = 0 ∨ y = 0 ∨ x + y = 0 then 10 else 0)
def facN (a : Nat) : Nat := match a with | 0 => 2 | 1 => 3 | 2 => 1 | _ => 0
def angN (a b : Nat) : Nat := min ((a + 6 - b) % 6) (6 - (a + 6 - b) % 6)
def fmC (x : Int32) : Int32 := if 0 ≤ x ^^^ 6 then x - x / 6 * 6 else if x - x / 6 * 6 = 0 then x - x / 6 * 6 else x - x / 6 * 6 + 6
theorem fm_J : ∀ e, e < 6 → fmC (J e) = J e := by decide
theorem fm_sub : ∀ a, a < 6 → ∀ b, b < 6 → fmC (J a - J b) = J ((a + 6 - b) % 6) := by decide
theorem fm_add1 : ∀ a, a < 6 → fmC (J a + 1) = J ((a + 1) % 6) := by decide
theorem fm_add_1 : ∀ a, a < 6 → fmC (J a + -1) = J ((a + 5) % 6) := by decide
theorem ang_min : ∀ a, a < 6 → ∀ b, b < 6 → mnC (J ((a + 6 - b) % 6)) (6 - J ((a + 6 - b) % 6)) = J (angN a b) := by decide
theorem ang_le : ∀ a, a < 6 → ∀ b, b < 6 → angN a b ≤ 3 := by decide
theorem i1_0 : ¬ (1 : Int32) = 0 := by decide
section S24
variable {z : Zr} {α β γ : Mem} {π : Nat → Nat} {η : Int64} {o : Nat → Int64} {od : Nat → UInt64} {n : Nat}
theorem t208 (x : Int32) : Run 114 0 [some (.int (x)), some (.int (6)), none] [] (HC z α π β η o od) = some (.inl (some (.int (fmC x))), (HC z α π β η o od)) := s114 x
theorem t209 (x : Int32) : Run 115 0 [some (.int (x))] [] (HC z α π β η o od) = some (.inl (some (.int (absC x))), (HC z α π β η o od)) := s115 x
theorem t210 (x w : Int32) : Run 116 0 [some (.int (x)), some (.int (w))] [] (HC z α π β η o od) = some (.inl (some (.int (mxC x w))), (HC z α π β η o od)) := s116 x w
theorem t211 (x w : Int32) : Run 117 0 [some (.int (x)), some (.int (w))] [] (HC z α π β η o od) = some (.inl (some (.int (mnC x w))), (HC z α π β η o od)) := s117 x w
theorem s43 (H : Ok α n) : Run 43 0 [some (.ref (4))] [] (HC z α π β η o od) = some (.inl (some (.int (α 4 0 * α 4 1))), (HC z α π β η o od)) := by
  have h : mnC (α 4 0 * α 4 1) 144 = α 4 0 * α 4 1 := by
    unfold mnC; rw [if_neg]; rw [i32_lt, ti144]; have := H.wh; omega
  simp only [e43_0, e43_1, e43_4, e43_5, e43_8, e43_9, e43_12, e43_15, gf6_0 kd4, gf6_1 kd4, t211, h, aft_v, aft_n, Option.bind_some, rf_some, ck_i, ck_r, ck_n, nb0, nb1, nbi, Nat.reduceAdd, if_true, if_false, not_false_eq_true, not_true_eq_false]
theorem t46 (H : Ok α n) (c : Int32) : Run 46 0 [some (.ref (4)), some (.int (c))] [] (HC z α π β η o od) = some (.inl (some (.int (rowC α c))), (HC z α π β η o od)) := s46 kd4 c H.pos
theorem t47 (H : Ok α n) (c : Int32) : Run 47 0 [some (.ref (4)), some (.int (c))] [] (HC z α π β η o od) = some (.inl (some (.int (colC α c))), (HC z α π β η o od)) := s47 kd4 c H.pos
abbrev freeC (α : Mem) (n : Nat) (c : Int32) : Prop := isCellC α 4 c ∧ α 5 c.toNatClampNeg = 0 ∧ shipOnF α c n 0 = -1
theorem s51 (H : Ok α n) (c : Int32) : Run 51 0 [some (.ref (4)), some (.int (c))] [] (HC z α π β η o od) = some (.inl (some (.int (bi (freeC α n c)))), (HC z α π β η o od)) := by
  by_cases hc : isCellC α 4 c
  · have hi := cell_in hc
    rw [← al5] at hi
    simp only [e51_0, e51_1, e51_2, e51_5, e51_8, e51_9, e51_12, e51_13, e51_14, e51_17, e51_18, e51_19, e51_22, e51_23, e51_26, e51_27, e51_30, e51_31, s44 kd4, isO4, bi_t hc, gf6_6 kd4, gaI40 kd5 hi, s50 H.hn H.n8, i1_0, aft_v, aft_n, Option.bind_some, rf_some, ck_i, ck_r, ck_n, nb0, nb1, nbi, Nat.reduceAdd, if_true, if_false, not_false_eq_true, not_true_eq_false]
    by_cases h : α 5 c.toNatClampNeg = 0
    · by_cases h2 : shipOnF α c n 0 = -1
      · rw [if_pos h, if_pos h2, bi_t ⟨hc, h, h2⟩]
      · rw [if_pos h, if_neg h2, bi_f (fun q => h2 q.2.2)]
    · rw [if_neg h, bi_f (fun q => h q.2.1)]
  · simp only [e51_0, e51_1, e51_2, e51_5, e51_8, e51_9, e51_12, e51_13, e51_14, e51_17, e51_18, e51_19, e51_22, e51_23, e51_26, e51_27, e51_30, e51_31, s44 kd4, isO4, bi_f hc, aft_v, aft_n, Option.bind_some, rf_some, ck_i, ck_r, ck_n, nb0, nb1, nbi, Nat.reduceAdd, if_true, if_false, not_false_eq_true, not_true_eq_false]
    rw [bi_f (fun q => hc q.1)]
def thingC (α : Mem) (n : Nat) (c : Int32) : Int32 := if rockC α c then -2 else shipOnF α c n 0
theorem s52 (H : Ok α n) (c : Int32) : Run 52 0 [some (.ref (4)), some (.int (c))] [] (HC z α π β η o od) = some (.inl (some (.int (thingC α n c))), (HC z α π β η o od)) := by
  simp only [e52_0, e52_1, e52_2, e52_5, e52_8, e52_10, e52_13, e52_14, e52_15, e52_18, s48, isO4, s50 H.hn H.n8, bi0, aft_v, aft_n, Option.bind_some, rf_some, ck_i, ck_r, ck_n, nb0, nb1, nbi, Nat.reduceAdd, if_true, if_false, not_false_eq_true, not_true_eq_false]
  unfold thingC
  by_cases h : rockC α c
  · rw [if_neg (fun q => q h), if_pos h]
  · rw [if_pos h, if_neg h]
def nbC (α : Mem) (c : Int32) (e : Nat) : Int32 := if 0 ≤ rowC α c + rowStep e ∧ rowC α c + rowStep e < α 4 1 ∧ 0 ≤ colC α c + colStep e ∧ colC α c + colStep e < α 4 0 then (rowC α c + rowStep e) * α 4 0 + (colC α c + colStep e) else -1
theorem s53 (H : Ok α n) {c : Int32} (hc : isCellC α 4 c) {e : Nat} (he : e < 6) : Run 53 0 [some (.ref (4)), some (.int (c)), some (.int (J e)), none, none, none] [] (HC z α π β η o od) = some (.inl (some (.int (nbC α c e))), (HC z α π β η o od)) := by
  simp only [e53_0, e53_1, e53_2, e53_5, e53_8, e53_9, e53_10, e53_11, e53_13, e53_16, e53_17, e53_18, e53_19, e53_22, e53_25, e53_26, e53_27, e53_28, e53_30, e53_31, e53_32, e53_35, e53_38, e53_39, e53_40, e53_41, e53_43, e53_45, e53_48, e53_50, e53_51, e53_54, e53_57, e53_59, e53_62, e53_64, e53_65, e53_68, e53_71, e53_72, e53_73, e53_75, e53_76, e53_79, e53_80, e53_82, e53_83, s44 kd4, isO4, bi_t hc, t208, fm_J e he, t46 H, t47 H, gaI1 (inB_J he (by omega)), gaI2 (inB_J he (by omega)), J_tn (show e < 2147483648 by omega), gf6_0 kd4, gf6_1 kd4, i1_0, aft_v, aft_n, Option.bind_some, rf_some, ck_i, ck_r, ck_n, nb0, nb1, nbi, Nat.reduceAdd, if_true, if_false, not_false_eq_true, not_true_eq_false]
  unfold nbC
  by_cases h1 : 0 ≤ rowC α c + rowStep e <;> by_cases h2 : rowC α c + rowStep e < α 4 1 <;> by_cases h3 : 0 ≤ colC α c + colStep e <;> by_cases h4 : colC α c + colStep e < α 4 0 <;> simp only [h1, h2, h3, h4, ← nlt, ← nle, and_true, and_false, true_and, false_and, aft_v, aft_n, Option.bind_some, rf_some, ck_i, ck_r, ck_n, nb0, nb1, nbi, Nat.reduceAdd, if_true, if_false, not_false_eq_true, not_true_eq_false]
theorem s53n {c : Int32} (hc : ¬ isCellC α 4 c) {d : Int32} : Run 53 0 [some (.ref (4)), some (.int (c)), some (.int (d)), none, none, none] [] (HC z α π β η o od) = some (.inl (some (.int (-1))), (HC z α π β η o od)) := by
  simp only [e53_0, e53_1, e53_2, e53_5, e53_8, e53_9, e53_10, e53_11, e53_13, e53_16, e53_17, e53_18, e53_19, e53_22, e53_25, e53_26, e53_27, e53_28, e53_30, e53_31, e53_32, e53_35, e53_38, e53_39, e53_40, e53_41, e53_43, e53_45, e53_48, e53_50, e53_51, e53_54, e53_57, e53_59, e53_62, e53_64, e53_65, e53_68, e53_71, e53_72, e53_73, e53_75, e53_76, e53_79, e53_80, e53_82, e53_83, s44 kd4, isO4, bi_f hc, aft_v, aft_n, Option.bind_some, rf_some, ck_i, ck_r, ck_n, nb0, nb1, nbi, Nat.reduceAdd, if_true, if_false, not_false_eq_true, not_true_eq_false]
theorem s54 (H : Ok α n) (f t : Int32) : Run 54 0 [some (.ref (4)), some (.int (f)), some (.int (t)), none, none] [] (HC z α π β η o od) = some (.inl (some (.int (farC (rowC α t - rowC α f) (colC α t - colC α f)))), (HC z α π β η o od)) := by
  simp only [e54_0, e54_1, e54_2, e54_5, e54_6, e54_7, e54_10, e54_11, e54_12, e54_13, e54_14, e54_17, e54_18, e54_19, e54_22, e54_23, e54_25, e54_26, e54_28, e54_29, e54_32, e54_33, e54_36, e54_38, e54_41, e54_44, e54_47, isO4, t46 H, t47 H, t209, t210, aft_v, aft_n, Option.bind_some, rf_some, ck_i, ck_r, ck_n, nb0, nb1, nbi, Nat.reduceAdd, if_true, if_false, not_false_eq_true, not_true_eq_false]
  rfl
theorem s56 (x y : Int32) : Run 56 0 [some (.int (x)), some (.int (y))] [] (HC z α π β η o od) = some (.inl (some (.int (sectorC x y))), (HC z α π β η o od)) := by
  simp only [e56_0, e56_1, e56_4, e56_5, e56_8, e56_9, e56_10, e56_11, e56_14, e56_15, e56_16, e56_17, e56_20, e56_21, e56_22, e56_23, e56_26, e56_27, e56_28, e56_29, e56_32, e56_33, e56_34, e56_35, e56_36, e56_37, e56_40, e56_41, e56_44, e56_45, aft_v, aft_n, Option.bind_some, rf_some, ck_i, ck_r, ck_n, nb0, nb1, nbi, Nat.reduceAdd, if_true, if_false, not_false_eq_true, not_true_eq_false]
  unfold sectorC
  by_cases h1 : 0 ≤ x <;> by_cases h2 : 0 < y <;> by_cases h3 : 0 < x + y <;> by_cases h4 : 0 < x <;> by_cases h5 : y < 0 <;> by_cases h6 : x + y < 0 <;> simp only [h1, h2, h3, h4, h5, h6, ← nlt, ← nle, and_true, and_false, true_and, false_and, aft_v, aft_n, Option.bind_some, rf_some, ck_i, ck_r, ck_n, nb0, nb1, nbi, Nat.reduceAdd, if_true, if_false, not_false_eq_true, not_true_eq_false]
theorem s55 (H : Ok α n) (f t : Int32) : Run 55 0 [some (.ref (4)), some (.int (f)), some (.int (t)), none, none, none] [] (HC z α π β η o od) = some (.inl (some (.int (sightC (rowC α t - rowC α f) (colC α t - colC α f)))), (HC z α π β η o od)) := by
  simp only [e55_0, e55_1, e55_2, e55_5, e55_6, e55_7, e55_10, e55_11, e55_12, e55_13, e55_14, e55_17, e55_18, e55_19, e55_22, e55_23, e55_25, e55_26, e55_29, e55_31, e55_34, e55_35, e55_36, e55_37, e55_40, e55_42, e55_45, e55_46, e55_48, e55_49, e55_52, e55_53, e55_56, e55_57, e55_59, e55_60, e55_62, e55_65, e55_67, e55_70, e55_72, e55_75, e55_76, e55_77, isO4, t46 H, t47 H, s56, i1_0, aft_v, aft_n, Option.bind_some, rf_some, ck_i, ck_r, ck_n, nb0, nb1, nbi, Nat.reduceAdd, if_true, if_false, not_false_eq_true, not_true_eq_false]
  unfold sightC
  by_cases h1 : rowC α t - rowC α f = 0 <;> by_cases h2 : colC α t - colC α f = 0 <;> by_cases h3 : rowC α t - rowC α f + (colC α t - colC α f) = 0 <;> simp only [h1, h2, h3, and_true, and_false, true_and, false_and, or_true, true_or, or_false, false_or, aft_v, aft_n, Option.bind_some, rf_some, ck_i, ck_r, ck_n, nb0, nb1, nbi, Nat.reduceAdd, if_true, if_false, not_false_eq_true, not_true_eq_false]
theorem s58 {a b : Nat} (ha : a < 6) (hb : b < 6) : Run 58 0 [some (.int (J a)), some (.int (J b)), none] [] (HC z α π β η o od) = some (.inl (some (.int (J (angN a b)))), (HC z α π β η o od)) := by
  simp only [e58_0, e58_1, e58_2, e58_3, e58_5, e58_8, e58_9, e58_10, e58_12, e58_13, e58_14, e58_17, t208, t211, fm_sub a ha b hb, ang_min a ha b hb, aft_v, aft_n, Option.bind_some, rf_some, ck_i, ck_r, ck_n, nb0, nb1, nbi, Nat.reduceAdd, if_true, if_false, not_false_eq_true, not_true_eq_false]
theorem s57 {a b : Nat} (ha : a < 6) (hb : b < 6) (hw : α 4 2 = J b) : Run 57 0 [some (.ref (4)), some (.int (J a))] [] (HC z α π β η o od) = some (.inl (some (.int (J (angN a b)))), (HC z α π β η o od)) := by
  simp only [e57_0, e57_1, e57_2, e57_5, e57_8, gf6_2 kd4, hw, s58 ha hb, aft_v, aft_n, Option.bind_some, rf_some, ck_i, ck_r, ck_n, nb0, nb1, nbi, Nat.reduceAdd, if_true, if_false, not_false_eq_true, not_true_eq_false]
theorem s59 {a : Nat} (ha : a ≤ 3) : Run 59 0 [some (.int (J a))] [] (HC z α π β η o od) = some (.inl (some (.int (J (facN a)))), (HC z α π β η o od)) := by
  have h : a = 0 ∨ a = 1 ∨ a = 2 ∨ a = 3 := by omega
  rcases h with rfl | rfl | rfl | rfl
  · simp only [e59_0, show J 0 = 0 from rfl, e59_1_0, e59_28, e59_29, aft_v, aft_n, Option.bind_some, rf_some, ck_i, ck_r, ck_n, nb0, nb1, nbi, Nat.reduceAdd, if_true, if_false, not_false_eq_true, not_true_eq_false]; rfl
  · simp only [e59_0, show J 1 = 1 from rfl, e59_1_1, e59_30, e59_31, aft_v, aft_n, Option.bind_some, rf_some, ck_i, ck_r, ck_n, nb0, nb1, nbi, Nat.reduceAdd, if_true, if_false, not_false_eq_true, not_true_eq_false]; rfl
  · simp only [e59_0, show J 2 = 2 from rfl, e59_1_2, e59_32, e59_33, aft_v, aft_n, Option.bind_some, rf_some, ck_i, ck_r, ck_n, nb0, nb1, nbi, Nat.reduceAdd, if_true, if_false, not_false_eq_true, not_true_eq_false]; rfl
  · rw [e59_0, e59_1_d (by decide)]; simp only [e59_34, e59_35, aft_v, aft_n, Option.bind_some, rf_some, ck_i, ck_r, ck_n, nb0, nb1, nbi, Nat.reduceAdd, if_true, if_false, not_false_eq_true, not_true_eq_false]; rfl
def spdC (α : Mem) (a h b : Nat) : Int32 := (J (facN (angN h b)) * α 4 3 * α a 4 + 19) / 20
theorem s60 {a h b : Nat} (ha : kd a = 7) (hh : h < 6) (hb : b < 6) (hd : α a 2 = J h) : Run 60 0 [some (.ref (4)), some (.ref (a)), some (.int (J b)), none] [] (HC z α π β η o od) = some (.inl (some (.int (spdC α a h b))), (HC z α π β η o od)) := by
  simp only [e60_0, e60_1, e60_4, e60_5, e60_8, e60_11, e60_12, e60_13, e60_14, e60_17, e60_18, e60_19, e60_22, e60_23, e60_25, e60_26, e60_28, e60_29, gf7_2 ha, gf7_4 ha, gf6_3 kd4, hd, s58 hh hb, s59 (ang_le h hh b hb), show ¬ (20 : Int32) = 0 by decide, aft_v, aft_n, Option.bind_some, rf_some, ck_i, ck_r, ck_n, nb0, nb1, nbi, Nat.reduceAdd, if_true, if_false, not_false_eq_true, not_true_eq_false]
  rfl
end S24
