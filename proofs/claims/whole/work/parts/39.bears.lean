/-! the model: bearings -/
def detC (e : Nat) : Int32 := rowStep e * colStep ((e + 1) % 6) - colStep e * rowStep ((e + 1) % 6)
def beA (x y : Int32) (e : Nat) : Int32 := (x * colStep ((e + 1) % 6) - y * rowStep ((e + 1) % 6)) / detC e
def beB (x y : Int32) (e : Nat) : Int32 := (rowStep e * y - colStep e * x) / detC e
def bearF (x y : Int32) : Nat → Nat → Int32
  | 0, _ => -1
  | k + 1, e => if 0 < beA x y e ∧ ¬ beB x y e < 0 then (if beB x y e = 0 then J e + 10 else J e) else bearF x y k (e + 1)
theorem bear_tab : ∀ a, a < 23 → ∀ b, b < 23 → bearF (J a - 11) (J b - 11) 6 0 = sightC (J a - 11) (J b - 11) := by decide +kernel
theorem det_nz : ∀ e, e < 6 → ¬ detC e = 0 := by decide
theorem nx6 : ∀ e, e < 6 → J (e + 1) - J (e + 1) / 6 * 6 = J ((e + 1) % 6) := by decide
theorem J6 : (6 : Int32) = J 6 := rfl
theorem bear_eq {x y : Int32} (hx : -11 ≤ x.toInt ∧ x.toInt ≤ 11) (hy : -11 ≤ y.toInt ∧ y.toInt ≤ 11) : bearF x y 6 0 = sightC x y := by
  have t11 : (11 : Int32).toInt = 11 := rfl
  have ex : x + 11 - 11 = x := Int32.add_sub_cancel x 11
  have ey : y + 11 - 11 = y := Int32.add_sub_cancel y 11
  have e1 := add_ti (x := x) (y := 11) (by omega) (by omega)
  have e2 := add_ti (x := y) (y := 11) (by omega) (by omega)
  obtain ⟨a, ha, e3⟩ := J_rng (v := x + 11) (k := 23) (by omega) (by omega)
  obtain ⟨b, hb, e4⟩ := J_rng (v := y + 11) (k := 23) (by omega) (by omega)
  rw [e3] at ex; rw [e4] at ey
  rw [← ex, ← ey]
  exact bear_tab a ha b hb
section S39
variable {z : Zr} {α β γ : Mem} {π : Nat → Nat} {η : Int64} {o : Nat → Int64} {od : Nat → UInt64} {n k : Nat}
theorem s137_l (x y : Int32) (f t : Int32) : ∀ k e, e + k = 6 → ∀ u6 u7 u8 u9 : Option Value, Run 137 18 [some (.ref (70)), some (.int (f)), some (.int (t)), some (.int (x)), some (.int (y)), some (.int (J e)), u6, u7, u8, u9] [] (HC z γ π β η o od) = some (.inl (some (.int (bearF x y k e))), (HC z γ π β η o od)) := by
  intro k
  induction k with
  | zero =>
    intro e he u6 u7 u8 u9
    have : e = 6 := by omega
    subst this
    simp only [↓reduceIte, e137_0, e137_1, e137_2, e137_3, e137_6, e137_7, e137_8, e137_9, e137_10, e137_13, e137_15, e137_16, e137_18, e137_20, e137_22, e137_25, e137_27, e137_28, e137_29, e137_31, e137_32, e137_34, e137_36, e137_39, e137_41, e137_44, e137_45, e137_47, e137_50, e137_52, e137_55, e137_56, e137_57, e137_59, e137_60, e137_62, e137_65, e137_66, e137_68, e137_70, e137_73, e137_74, e137_75, e137_77, e137_78, e137_80, e137_82, e137_85, e137_87, e137_88, e137_90, e137_93, e137_94, e137_95, e137_96, e137_98, e137_99, e137_101, e137_103, e137_106, e137_108, e137_111, e137_113, e137_116, e137_118, e137_120, e137_121, e137_124, e137_126, e137_127, e137_130, e137_133, e137_134, J6, Int32.le_refl, bearF, aft_v, aft_n, Option.bind_some, rf_some, ck_i, ck_r, ck_n, nb0, nb1, nbi, Nat.reduceAdd, if_true, if_false, not_false_eq_true, not_true_eq_false]
  | succ k ih =>
    intro e he u6 u7 u8 u9
    have he6 : e < 6 := by omega
    have hd := det_nz e he6
    unfold detC at hd
    have hm : (e + 1) % 6 < 6 := Nat.mod_lt _ (by omega)
    rw [e137_18]
    have f1 : ∀ v : Int32, Int32.ofNat (e + 1) = J (e + 1) := fun _ => rfl
    have q6 : ¬ (6 : Int32) = 0 := by decide
    have ihx := fun a b c d => ih (e + 1) (by omega) a b c d
    have c6 : ((6 : Int32) ≤ J e) = False := eq_false (by rw [J6, J_le (by omega) (by omega)]; omega)
    have nx := nx6 e he6
    unfold bearF beA beB detC
    by_cases h1 : 0 < (x * colStep ((e + 1) % 6) - y * rowStep ((e + 1) % 6)) / (rowStep e * colStep ((e + 1) % 6) - colStep e * rowStep ((e + 1) % 6)) <;> by_cases h2 : (rowStep e * y - colStep e * x) / (rowStep e * colStep ((e + 1) % 6) - colStep e * rowStep ((e + 1) % 6)) < 0 <;> by_cases h3 : (rowStep e * y - colStep e * x) / (rowStep e * colStep ((e + 1) % 6) - colStep e * rowStep ((e + 1) % 6)) = 0 <;> simp only [↓reduceIte, e137_0, e137_1, e137_2, e137_3, e137_6, e137_7, e137_8, e137_9, e137_10, e137_13, e137_15, e137_16, e137_20, e137_22, e137_25, e137_27, e137_28, e137_29, e137_31, e137_32, e137_34, e137_36, e137_39, e137_41, e137_44, e137_45, e137_47, e137_50, e137_52, e137_55, e137_56, e137_57, e137_59, e137_60, e137_62, e137_65, e137_66, e137_68, e137_70, e137_73, e137_74, e137_75, e137_77, e137_78, e137_80, e137_82, e137_85, e137_87, e137_88, e137_90, e137_93, e137_94, e137_95, e137_96, e137_98, e137_99, e137_101, e137_103, e137_106, e137_108, e137_111, e137_113, e137_116, e137_118, e137_120, e137_121, e137_124, e137_126, e137_127, e137_130, e137_133, e137_134, c6, J_succ, nx, q6, s128 e he6, s129 e he6, s128 _ hm, s129 _ hm, hd, h1, h2, h3, le_not, ihx, show ((0 : Int32) < 0) = False from eq_false (by decide), and_true, and_false, true_and, false_and, aft_v, aft_n, Option.bind_some, rf_some, ck_i, ck_r, ck_n, nb0, nb1, nbi, Nat.reduceAdd, if_true, if_false, not_false_eq_true, not_true_eq_false]
theorem s137 (H : Ok α n) (R : Rm (β 71) α n) {f t : Int32} (hf : isCellC α 4 f) (ht : isCellC α 4 t) : Run 137 0 [some (.ref (70)), some (.int (f)), some (.int (t)), none, none, none, none, none, none, none] [] (HC z γ π β η o od) = some (.inl (some (.int (sgC α f t))), (HC z γ π β η o od)) := by
  have h1 := row_bd H hf; have h2 := row_bd H ht
  have hc := H.cols; have hr := H.rows
  have e1 := sub_ti (x := rowC α t) (y := rowC α f) (by omega) (by omega)
  have e2 := sub_ti (x := colC α t) (y := colC α f) (by omega) (by omega)
  unfold sgC
  rw [← bear_eq (x := rowC α t - rowC α f) (y := colC α t - colC α f) (by omega) (by omega)]
  rw [← s137_l (rowC α t - rowC α f) (colC α t - colC α f) f t 6 0 (by omega) none none none none]
  simp only [↓reduceIte, e137_0, e137_1, e137_2, e137_3, e137_6, e137_7, e137_8, e137_9, e137_10, e137_13, e137_15, e137_16, e137_20, e137_22, e137_25, e137_27, e137_28, e137_29, e137_31, e137_32, e137_34, e137_36, e137_39, e137_41, e137_44, e137_45, e137_47, e137_50, e137_52, e137_55, e137_56, e137_57, e137_59, e137_60, e137_62, e137_65, e137_66, e137_68, e137_70, e137_73, e137_74, e137_75, e137_77, e137_78, e137_80, e137_82, e137_85, e137_87, e137_88, e137_90, e137_93, e137_94, e137_95, e137_96, e137_98, e137_99, e137_101, e137_103, e137_106, e137_108, e137_111, e137_113, e137_116, e137_118, e137_120, e137_121, e137_124, e137_126, e137_127, e137_130, e137_133, e137_134, isO70, s134 H R, s135 H R, J0, aft_v, aft_n, Option.bind_some, rf_some, ck_i, ck_r, ck_n, nb0, nb1, nbi, Nat.reduceAdd, if_true, if_false, not_false_eq_true, not_true_eq_false]
end S39
