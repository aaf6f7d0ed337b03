/-! SPECS of the class: counts, numbers asked for -/
theorem ti6 : (6 : Int32).toInt = 6 := rfl
theorem ti14 : (14 : Int32).toInt = 14 := rfl
/-- the windward choice: best of directions d, d+1, .. (k of them), b the best yet -/
def fwF (f : Nat → Int32) : Nat → Nat → Nat → Nat
  | 0, _, b => b
  | k + 1, d, b => fwF f k (d + 1) (if f b < f d then d else b)
theorem fwF_lt (f : Nat → Int32) : ∀ k d b, d + k = 6 → b < 6 → fwF f k d b < 6 := by
  intro k
  induction k with
  | zero => intro d b _ h; exact h
  | succ k ih => intro d b hd h; unfold fwF; exact ih (d + 1) _ (by omega) (by split <;> omega)
/-- a count of ships from i on, added to v -/
def cntF (p : Nat → Prop) [DecidablePred p] : Nat → Nat → Int32 → Int32
  | 0, _, v => v
  | k + 1, i, v => cntF p k (i + 1) (if p i then v + 1 else v)
def sumF (f : Nat → Int32) : Nat → Nat → Int32 → Int32
  | 0, _, v => v
  | k + 1, i, v => sumF f k (i + 1) (v + f i)
def lastF (p : Nat → Prop) [DecidablePred p] : Nat → Int32
  | 0 => -1
  | k + 1 => if p k then J k else lastF p k
section S25
variable {z : Zr} {α β γ : Mem} {π : Nat → Nat} {η : Int64} {o : Nat → Int64} {od : Nat → UInt64} {n : Nat}
theorem s61_l (H : Ok α n) {a h : Nat} (ha : kd a = 7) (hh : h < 6) (hd : α a 2 = J h) : ∀ k d b, d + k = 6 → b < 6 → Run 61 4 [some (.ref (4)), some (.ref (a)), some (.int (J b)), some (.int (J d))] [] (HC z α π β η o od) = some (.inl (some (.int (J (fwF (spdC α a h) k d b)))), (HC z α π β η o od)) := by
  intro k
  induction k with
  | zero =>
    intro d b hdk hb
    have : d = 6 := by omega
    subst this
    simp only [e61_0, e61_1, e61_2, e61_3, e61_4, e61_5, e61_7, e61_10, e61_11, e61_12, e61_13, e61_16, e61_17, e61_18, e61_19, e61_22, e61_25, e61_26, e61_27, e61_30, e61_33, e61_34, (show (6 : Int32) = J 6 from rfl), J_le (show 6 < 2147483648 by omega) (show 6 < 2147483648 by omega), Nat.le_refl, fwF, aft_v, aft_n, Option.bind_some, rf_some, ck_i, ck_r, ck_n, nb0, nb1, nbi, Nat.reduceAdd, if_true, if_false, not_false_eq_true, not_true_eq_false]
  | succ k ih =>
    intro d b hdk hb
    rw [e61_4]
    simp only [e61_0, e61_1, e61_2, e61_3, e61_5, e61_7, e61_10, e61_11, e61_12, e61_13, e61_16, e61_17, e61_18, e61_19, e61_22, e61_25, e61_26, e61_27, e61_30, e61_33, e61_34, (show (6 : Int32) = J 6 from rfl), J_le (show 6 < 2147483648 by omega) (show d < 2147483648 by omega), show ¬ 6 ≤ d by omega, isO4, isO_HC ha (show 7 ≤ 9 by omega), s60 ha hh (show d < 6 by omega) hd, s60 ha hh hb hd, J_succ, aft_v, aft_n, Option.bind_some, rf_some, ck_i, ck_r, ck_n, nb0, nb1, nbi, Nat.reduceAdd, if_true, if_false, not_false_eq_true, not_true_eq_false]
    by_cases hc : spdC α a h b < spdC α a h d
    · simp only [fwF, hc, le_not, aft_v, aft_n, Option.bind_some, rf_some, ck_i, ck_r, ck_n, nb0, nb1, nbi, Nat.reduceAdd, if_true, if_false, not_false_eq_true, not_true_eq_false]; exact ih (d + 1) d (by omega) (by omega)
    · simp only [fwF, hc, le_not, aft_v, aft_n, Option.bind_some, rf_some, ck_i, ck_r, ck_n, nb0, nb1, nbi, Nat.reduceAdd, if_true, if_false, not_false_eq_true, not_true_eq_false]; exact ih (d + 1) b (by omega) hb
theorem s61 (H : Ok α n) {a h : Nat} (ha : kd a = 7) (hh : h < 6) (hd : α a 2 = J h) : Run 61 0 [some (.ref (4)), some (.ref (a)), none, none] [] (HC z α π β η o od) = some (.inl (some (.int (J (fwF (spdC α a h) 5 1 0)))), (HC z α π β η o od)) := by
  rw [← s61_l H ha hh hd 5 1 0 (by omega) (by omega)]
  simp only [e61_0, e61_1, e61_2, e61_3, show (0 : Int32) = J 0 from rfl, show (1 : Int32) = J 1 from rfl, aft_v, aft_n, Option.bind_some, rf_some, ck_i, ck_r, ck_n, nb0, nb1, nbi, Nat.reduceAdd, if_true, if_false, not_false_eq_true, not_true_eq_false]
/-- what letting go leaves -/
def looseC (α : Mem) (a : Nat) : Mem := up2 (if α a 12 = -1 then α else up2 α (7 + (α a 12).toNatClampNeg) 12 (-1)) a 12 (-1)
theorem s62 (hn : α 4 5 = J n) (h8 : n ≤ 8) {a : Nat} (ha : kd a = 7) (hp : α a 12 = -1 ∨ ∃ j, j < n ∧ α a 12 = J j) : Run 62 0 [some (.ref (4)), some (.ref (a))] [] (HC z α π β η o od) = some (.inl none, (HC z (looseC α a) π β η o od)) := by
  unfold looseC
  rcases hp with hp | ⟨j, hj, hp⟩
  · have hs : ¬ isShipC α 4 (-1) := fun q => absurd q.1 (by decide)
    simp only [e62_0, e62_1, e62_2, e62_5, e62_8, e62_11, e62_12, e62_15, e62_16, e62_19, e62_20, e62_21, e62_24, e62_25, e62_26, e62_29, isO4, gf7_12 ha, hp, s45 kd4, bi_f hs, pf7_12 ha, aft_v, aft_n, Option.bind_some, rf_some, ck_i, ck_r, ck_n, nb0, nb1, nbi, Nat.reduceAdd, if_true, if_false, not_false_eq_true, not_true_eq_false]
  · have hs : isShipC α 4 (J j) := by
      refine ⟨?_, ?_, ?_⟩
      · rw [show (0 : Int32) = J 0 from rfl, J_le (by omega) (by omega)]; omega
      · rw [hn, J_lt (by omega) (by omega)]; omega
      · rw [show (8 : Int32) = J 8 from rfl, J_lt (by omega) (by omega)]; omega
    have hm : ¬ J j = -1 := by rw [i32_eq, J_ti (by omega), tim1]; omega
    simp only [e62_0, e62_1, e62_2, e62_5, e62_8, e62_11, e62_12, e62_15, e62_16, e62_19, e62_20, e62_21, e62_24, e62_25, e62_26, e62_29, isO4, gf7_12 ha, hp, s45 kd4, bi_t hs, pf7_12 ha, gf6_7 kd4, gaR21 kd6 (inB_J (show j < 8 by omega) (by omega)), J_tn (show j < 2147483648 by omega), pf7_12 (kd_ship (show j < 8 by omega)), i1_0, hm, aft_v, aft_n, Option.bind_some, rf_some, ck_i, ck_r, ck_n, nb0, nb1, nbi, Nat.reduceAdd, if_true, if_false, not_false_eq_true, not_true_eq_false]
theorem s63_l (H : Ok α n) : ∀ k i v, i + k = n → Run 63 4 [some (.ref (4)), some (.int (v)), some (.int (J i))] [] (HC z α π β η o od) = some (.inl (some (.int (cntF (fun i => ¬ α (7 + i) 12 = -1) k i v))), (HC z α π β η o od)) := by
  intro k
  have h8 := H.n8
  induction k with
  | zero =>
    intro i v hi
    simp only [e63_0, e63_1, e63_2, e63_3, e63_4, e63_5, e63_6, e63_9, e63_12, e63_13, e63_15, e63_18, e63_19, e63_22, e63_23, e63_24, e63_27, e63_30, e63_33, e63_36, e63_39, e63_40, J_le (show n < 2147483648 by omega) (show i < 2147483648 by omega), show n ≤ i by omega, gf6_5 kd4, H.hn, cntF, aft_v, aft_n, Option.bind_some, rf_some, ck_i, ck_r, ck_n, nb0, nb1, nbi, Nat.reduceAdd, if_true, if_false, not_false_eq_true, not_true_eq_false]
  | succ k ih =>
    intro i v hi
    rw [e63_4]
    simp only [e63_0, e63_1, e63_2, e63_3, e63_5, e63_6, e63_9, e63_12, e63_13, e63_15, e63_18, e63_19, e63_22, e63_23, e63_24, e63_27, e63_30, e63_33, e63_36, e63_39, e63_40, J_le (show n < 2147483648 by omega) (show i < 2147483648 by omega), show ¬ n ≤ i by omega, (show (8 : Int32) = J 8 from rfl), J_le (show 8 < 2147483648 by omega) (show i < 2147483648 by omega), show ¬ 8 ≤ i by omega, gaR21 kd6 (inB_J (show i < 8 by omega) (by omega)), J_tn (show i < 2147483648 by omega), isO_HC (kd_ship (show i < 8 by omega)) (show 7 ≤ 9 by omega), s73 (kd_ship (show i < 8 by omega)), s74 (kd_ship (show i < 8 by omega)), J_succ, gf6_5 kd4, gf6_7 kd4, H.hn, bi0, ih (i + 1) _ (show i + 1 + k = n by omega), cntF, aft_v, aft_n, Option.bind_some, rf_some, ck_i, ck_r, ck_n, nb0, nb1, nbi, Nat.reduceAdd, if_true, if_false, not_false_eq_true, not_true_eq_false]
    by_cases hc : α (7 + i) 12 = -1 <;> simp only [hc, aft_v, aft_n, Option.bind_some, rf_some, ck_i, ck_r, ck_n, nb0, nb1, nbi, Nat.reduceAdd, if_true, if_false, not_false_eq_true, not_true_eq_false]
theorem s63 (H : Ok α n) : Run 63 0 [some (.ref (4)), none, none] [] (HC z α π β η o od) = some (.inl (some (.int (cntF (fun i => ¬ α (7 + i) 12 = -1) n 0 0))), (HC z α π β η o od)) := by
  rw [← s63_l H n 0 0 (by omega)]
  simp only [e63_0, e63_1, e63_2, e63_3, show J 0 = (0 : Int32) from rfl, aft_v, aft_n, Option.bind_some, rf_some, ck_i, ck_r, ck_n, nb0, nb1, nbi, Nat.reduceAdd, if_true, if_false, not_false_eq_true, not_true_eq_false]
theorem s64_l (H : Ok α n) (s : Int32) : ∀ k i v, i + k = n → Run 64 4 [some (.ref (4)), some (.int (s)), some (.int (v)), some (.int (J i))] [] (HC z α π β η o od) = some (.inl (some (.int (cntF (fun i => 0 < α (7 + i) 3 ∧ α (7 + i) 0 = s) k i v))), (HC z α π β η o od)) := by
  intro k
  have h8 := H.n8
  induction k with
  | zero =>
    intro i v hi
    simp only [e64_0, e64_1, e64_2, e64_3, e64_4, e64_5, e64_6, e64_9, e64_12, e64_13, e64_15, e64_18, e64_19, e64_22, e64_23, e64_24, e64_27, e64_30, e64_31, e64_34, e64_35, e64_36, e64_39, e64_40, e64_43, e64_46, e64_49, e64_52, e64_53, J_le (show n < 2147483648 by omega) (show i < 2147483648 by omega), show n ≤ i by omega, gf6_5 kd4, H.hn, cntF, aft_v, aft_n, Option.bind_some, rf_some, ck_i, ck_r, ck_n, nb0, nb1, nbi, Nat.reduceAdd, if_true, if_false, not_false_eq_true, not_true_eq_false]
  | succ k ih =>
    intro i v hi
    rw [e64_4]
    simp only [e64_0, e64_1, e64_2, e64_3, e64_5, e64_6, e64_9, e64_12, e64_13, e64_15, e64_18, e64_19, e64_22, e64_23, e64_24, e64_27, e64_30, e64_31, e64_34, e64_35, e64_36, e64_39, e64_40, e64_43, e64_46, e64_49, e64_52, e64_53, J_le (show n < 2147483648 by omega) (show i < 2147483648 by omega), show ¬ n ≤ i by omega, (show (8 : Int32) = J 8 from rfl), J_le (show 8 < 2147483648 by omega) (show i < 2147483648 by omega), show ¬ 8 ≤ i by omega, gaR21 kd6 (inB_J (show i < 8 by omega) (by omega)), J_tn (show i < 2147483648 by omega), isO_HC (kd_ship (show i < 8 by omega)) (show 7 ≤ 9 by omega), s73 (kd_ship (show i < 8 by omega)), s74 (kd_ship (show i < 8 by omega)), J_succ, gf6_5 kd4, gf6_7 kd4, H.hn, gf7_0 (kd_ship (show i < 8 by omega)), bi0, ih (i + 1) _ (show i + 1 + k = n by omega), cntF, aft_v, aft_n, Option.bind_some, rf_some, ck_i, ck_r, ck_n, nb0, nb1, nbi, Nat.reduceAdd, if_true, if_false, not_false_eq_true, not_true_eq_false]
    by_cases hc : 0 < α (7 + i) 3 <;> by_cases hc2 : α (7 + i) 0 = s <;> simp only [hc, hc2, and_true, and_false, true_and, false_and, aft_v, aft_n, Option.bind_some, rf_some, ck_i, ck_r, ck_n, nb0, nb1, nbi, Nat.reduceAdd, if_true, if_false, not_false_eq_true, not_true_eq_false]
theorem s64 (H : Ok α n) (s : Int32) : Run 64 0 [some (.ref (4)), some (.int (s)), none, none] [] (HC z α π β η o od) = some (.inl (some (.int (cntF (fun i => 0 < α (7 + i) 3 ∧ α (7 + i) 0 = s) n 0 0))), (HC z α π β η o od)) := by
  rw [← s64_l H s n 0 0 (by omega)]
  simp only [e64_0, e64_1, e64_2, e64_3, show J 0 = (0 : Int32) from rfl, aft_v, aft_n, Option.bind_some, rf_some, ck_i, ck_r, ck_n, nb0, nb1, nbi, Nat.reduceAdd, if_true, if_false, not_false_eq_true, not_true_eq_false]
def wgtC (α : Mem) (s : Int32) (i : Nat) : Int32 := if 0 < α (7 + i) 3 ∧ α (7 + i) 0 = s then α (7 + i) 3 + α (7 + i) 7 else 0
theorem s65_l (H : Ok α n) (s : Int32) : ∀ k i v, i + k = n → Run 65 4 [some (.ref (4)), some (.int (s)), some (.int (v)), some (.int (J i))] [] (HC z α π β η o od) = some (.inl (some (.int (sumF (wgtC α s) k i v))), (HC z α π β η o od)) := by
  intro k
  have h8 := H.n8
  induction k with
  | zero =>
    intro i v hi
    simp only [e65_0, e65_1, e65_2, e65_3, e65_4, e65_5, e65_6, e65_9, e65_12, e65_13, e65_15, e65_18, e65_19, e65_22, e65_23, e65_24, e65_27, e65_30, e65_31, e65_34, e65_35, e65_36, e65_39, e65_40, e65_43, e65_44, e65_45, e65_48, e65_49, e65_50, e65_53, e65_54, e65_57, e65_58, e65_59, e65_62, e65_63, e65_64, e65_65, e65_68, e65_71, e65_72, J_le (show n < 2147483648 by omega) (show i < 2147483648 by omega), show n ≤ i by omega, gf6_5 kd4, H.hn, sumF, aft_v, aft_n, Option.bind_some, rf_some, ck_i, ck_r, ck_n, nb0, nb1, nbi, Nat.reduceAdd, if_true, if_false, not_false_eq_true, not_true_eq_false]
  | succ k ih =>
    intro i v hi
    rw [e65_4]
    simp only [e65_0, e65_1, e65_2, e65_3, e65_5, e65_6, e65_9, e65_12, e65_13, e65_15, e65_18, e65_19, e65_22, e65_23, e65_24, e65_27, e65_30, e65_31, e65_34, e65_35, e65_36, e65_39, e65_40, e65_43, e65_44, e65_45, e65_48, e65_49, e65_50, e65_53, e65_54, e65_57, e65_58, e65_59, e65_62, e65_63, e65_64, e65_65, e65_68, e65_71, e65_72, J_le (show n < 2147483648 by omega) (show i < 2147483648 by omega), show ¬ n ≤ i by omega, (show (8 : Int32) = J 8 from rfl), J_le (show 8 < 2147483648 by omega) (show i < 2147483648 by omega), show ¬ 8 ≤ i by omega, gaR21 kd6 (inB_J (show i < 8 by omega) (by omega)), J_tn (show i < 2147483648 by omega), isO_HC (kd_ship (show i < 8 by omega)) (show 7 ≤ 9 by omega), s73 (kd_ship (show i < 8 by omega)), s74 (kd_ship (show i < 8 by omega)), J_succ, gf6_5 kd4, gf6_7 kd4, H.hn, gf7_0 (kd_ship (show i < 8 by omega)), gf7_3 (kd_ship (show i < 8 by omega)), gf7_7 (kd_ship (show i < 8 by omega)), bi0, ih (i + 1) _ (show i + 1 + k = n by omega), sumF, wgtC, aft_v, aft_n, Option.bind_some, rf_some, ck_i, ck_r, ck_n, nb0, nb1, nbi, Nat.reduceAdd, if_true, if_false, not_false_eq_true, not_true_eq_false]
    by_cases hc : 0 < α (7 + i) 3 <;> by_cases hc2 : α (7 + i) 0 = s <;> simp only [hc, hc2, and_true, and_false, true_and, false_and, Int32.add_zero, aft_v, aft_n, Option.bind_some, rf_some, ck_i, ck_r, ck_n, nb0, nb1, nbi, Nat.reduceAdd, if_true, if_false, not_false_eq_true, not_true_eq_false]
theorem s65 (H : Ok α n) (s : Int32) : Run 65 0 [some (.ref (4)), some (.int (s)), none, none] [] (HC z α π β η o od) = some (.inl (some (.int (sumF (wgtC α s) n 0 0))), (HC z α π β η o od)) := by
  rw [← s65_l H s n 0 0 (by omega)]
  simp only [e65_0, e65_1, e65_2, e65_3, show J 0 = (0 : Int32) from rfl, aft_v, aft_n, Option.bind_some, rf_some, ck_i, ck_r, ck_n, nb0, nb1, nbi, Nat.reduceAdd, if_true, if_false, not_false_eq_true, not_true_eq_false]
theorem s66_l : ∀ k c v, c + k = 144 → Run 66 4 [some (.ref (4)), some (.int (v)), some (.int (J c))] [] (HC z α π β η o od) = some (.inl (some (.int (cntF (fun c => rockC α (J c)) k c v))), (HC z α π β η o od)) := by
  intro k
  induction k with
  | zero =>
    intro c v hc
    have : c = 144 := by omega
    subst this
    simp only [e66_0, e66_1, e66_2, e66_3, e66_4, e66_5, e66_8, e66_11, e66_12, e66_13, e66_16, e66_19, e66_22, e66_25, e66_28, e66_29, (show (144 : Int32) = J 144 from rfl), J_le (show 144 < 2147483648 by omega) (show 144 < 2147483648 by omega), Nat.le_refl, cntF, aft_v, aft_n, Option.bind_some, rf_some, ck_i, ck_r, ck_n, nb0, nb1, nbi, Nat.reduceAdd, if_true, if_false, not_false_eq_true, not_true_eq_false]
  | succ k ih =>
    intro c v hc
    rw [e66_4]
    simp only [e66_0, e66_1, e66_2, e66_3, e66_5, e66_8, e66_11, e66_12, e66_13, e66_16, e66_19, e66_22, e66_25, e66_28, e66_29, (show (144 : Int32) = J 144 from rfl), J_le (show 144 < 2147483648 by omega) (show c < 2147483648 by omega), show ¬ 144 ≤ c by omega, isO4, s48, bi0, J_succ, ih (c + 1) _ (show c + 1 + k = 144 by omega), cntF, aft_v, aft_n, Option.bind_some, rf_some, ck_i, ck_r, ck_n, nb0, nb1, nbi, Nat.reduceAdd, if_true, if_false, not_false_eq_true, not_true_eq_false]
    by_cases h : rockC α (J c)
    · rw [if_neg (fun q => q h), if_pos h]
    · rw [if_pos h, if_neg h]
theorem s66 : Run 66 0 [some (.ref (4)), none, none] [] (HC z α π β η o od) = some (.inl (some (.int (cntF (fun c => rockC α (J c)) 144 0 0))), (HC z α π β η o od)) := by
  rw [← s66_l 144 0 0 (by omega)]
  simp only [e66_0, e66_1, e66_2, e66_3, show J 0 = (0 : Int32) from rfl, aft_v, aft_n, Option.bind_some, rf_some, ck_i, ck_r, ck_n, nb0, nb1, nbi, Nat.reduceAdd, if_true, if_false, not_false_eq_true, not_true_eq_false]
theorem s67_l : ∀ k, k ≤ 144 → Run 67 4 [some (.ref (4)), some (.int (J k + -1))] [] (HC z α π β η o od) = some (.inl (some (.int (lastF (fun c => rockC α (J c)) k))), (HC z α π β η o od)) := by
  intro k
  induction k with
  | zero =>
    intro _
    simp only [e67_0, e67_3, e67_4, e67_5, e67_8, e67_9, e67_10, e67_13, e67_16, e67_17, e67_18, e67_21, e67_24, e67_25, (show J 0 + -1 < 0 by decide), lastF, aft_v, aft_n, Option.bind_some, rf_some, ck_i, ck_r, ck_n, nb0, nb1, nbi, Nat.reduceAdd, if_true, if_false, not_false_eq_true, not_true_eq_false]
  | succ k ih =>
    intro hk
    have e1 : J (k + 1) + -1 = J k := by
      rw [← J_succ, Int32.add_assoc, show (1 : Int32) + -1 = 0 by decide, Int32.add_zero]
    rw [e1, e67_4]
    have h0 : ¬ J k < 0 := by rw [show (0 : Int32) = J 0 from rfl, J_lt (by omega) (by omega)]; omega
    simp only [e67_0, e67_3, e67_5, e67_8, e67_9, e67_10, e67_13, e67_16, e67_17, e67_18, e67_21, e67_24, e67_25, h0, isO4, s48, bi0, ih (by omega), lastF, aft_v, aft_n, Option.bind_some, rf_some, ck_i, ck_r, ck_n, nb0, nb1, nbi, Nat.reduceAdd, if_true, if_false, not_false_eq_true, not_true_eq_false]
    by_cases h : rockC α (J k)
    · rw [if_neg (fun q => q h), if_pos h]
    · rw [if_pos h, if_neg h]
theorem s67 : Run 67 0 [some (.ref (4)), none] [] (HC z α π β η o od) = some (.inl (some (.int (lastF (fun c => rockC α (J c)) 144))), (HC z α π β η o od)) := by
  rw [← s67_l 144 (by omega)]
  simp only [e67_0, e67_3, show J 144 + -1 = (143 : Int32) from rfl, aft_v, aft_n, Option.bind_some, rf_some, ck_i, ck_r, ck_n, nb0, nb1, nbi, Nat.reduceAdd, if_true, if_false, not_false_eq_true, not_true_eq_false]
end S25
