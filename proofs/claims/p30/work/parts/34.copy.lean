/-! filling, copying, the saved states -/
def fillF (α : Mem) (a i : Nat) (v : Int32) : Nat → Int32 := fun j => if j < i then v else α a j
theorem fill_st (α : Mem) (a i : Nat) (v : Int32) : up2 (upA α a (fillF α a i v)) a i v = upA α a (fillF α a (i + 1) v) := by
  funext j m
  by_cases h : j = a
  · subst h
    rw [up2_a, upA_at, upA_at]
    unfold fillF
    by_cases q : m = i
    · rw [if_pos q, if_pos (by omega)]
    · rw [if_neg q]
      by_cases w : m < i
      · rw [if_pos w, if_pos (by omega)]
      · rw [if_neg w, if_neg (by omega)]
  · rw [up2_ne _ h, upA_ne _ h, upA_ne _ h]
theorem fill_0 (α : Mem) (a : Nat) (v : Int32) : upA α a (fillF α a 0 v) = α := by
  funext j m
  by_cases h : j = a
  · subst h; rw [upA_at]; unfold fillF; rw [if_neg (by omega)]
  · rw [upA_ne _ h]
def fillC (α : Mem) (a : Nat) (v : Int32) : Mem := upA α a (fillF α a (aln a) v)
def cpF (α : Mem) (a b : Nat) : Nat → Int32 := fun m => if m < 15 then α b m else α a m
def cpS (α : Mem) (a b : Nat) : Mem := upA α a (cpF α a b)
section S34
variable {z : Zr} {α β γ : Mem} {π : Nat → Nat} {η : Int64} {o : Nat → Int64} {od : Nat → UInt64} {n l : Nat}
theorem s118_l {a : Nat} (ha : kd a = 40) (hL : aln a < 2000) (v : Int32) : ∀ k i, i + k = aln a → Run 118 5 [some (.ref (a)), some (.int (v)), some (.int (J i)), some (.int (J (aln a)))] [] (HC z (upA α a (fillF α a i v)) π β η o od) = some (.inl none, (HC z (fillC α a v) π β η o od)) := by
  intro k
  induction k with
  | zero =>
    intro i hi
    have : i = aln a := by omega
    subst this
    simp only [↓reduceIte, e118_0, e118_1, e118_2, e118_3, e118_4, e118_5, e118_6, e118_7, e118_10, e118_11, e118_12, e118_13, e118_14, e118_17, e118_20, Int32.le_refl, aft_v, aft_n, Option.bind_some, rf_some, ck_i, ck_r, ck_n, nb0, nb1, nbi, Nat.reduceAdd, if_true, if_false, not_false_eq_true, not_true_eq_false]
    rfl
  | succ k ih =>
    intro i hi
    rw [e118_5]
    have hb : inB (J i) (aln a) = true := inB_J (by omega) (by omega)
    simp only [↓reduceIte, e118_0, e118_1, e118_2, e118_3, e118_4, e118_6, e118_7, e118_10, e118_11, e118_12, e118_13, e118_14, e118_17, e118_20, J_le (show aln a < 2147483648 by omega) (show i < 2147483648 by omega), show ¬ aln a ≤ i by omega, paI40 ha hb, J_tn (show i < 2147483648 by omega), fill_st, J_succ, ih (i + 1) (by omega), aft_v, aft_n, Option.bind_some, rf_some, ck_i, ck_r, ck_n, nb0, nb1, nbi, Nat.reduceAdd, if_true, if_false, not_false_eq_true, not_true_eq_false]
theorem s118 {a : Nat} (ha : kd a = 40) (hL : aln a < 2000) (v : Int32) : Run 118 0 [some (.ref (a)), some (.int (v)), none, none] [] (HC z α π β η o od) = some (.inl none, (HC z (fillC α a v) π β η o od)) := by
  have e := s118_l (z := z) (α := α) (β := β) (π := π) (η := η) (o := o) (od := od) ha hL v (aln a) 0 (by omega)
  rw [fill_0] at e
  rw [← e]
  simp only [e118_0, e118_1, e118_2, e118_3, e118_4, alen40 ha, J0, aft_v, aft_n, Option.bind_some, rf_some, ck_i, ck_r, ck_n, nb0, nb1, nbi, Nat.reduceAdd, if_true, if_false, not_false_eq_true, not_true_eq_false]
def newC (α : Mem) (B : Nat) (c r : Int32) : Mem := fillC (up2 (up2 (up2 (up2 (up2 (up2 α B 0 c) B 1 r) B 2 0) B 3 2) B 4 1) B 5 0) (B + 1) 0
theorem s41 {B : Nat} (hB : kd B = 6) (h1 : kd (B + 1) = 40) (h2 : aln (B + 1) < 2000) (c r : Int32) : Run 41 0 [some (.ref (B)), some (.int (c)), some (.int (r))] [] (HC z α π β η o od) = some (.inl none, (HC z (newC α B c r) π β η o od)) := by
  simp only [↓reduceIte, e41_0, e41_1, e41_2, e41_5, e41_6, e41_7, e41_10, e41_11, e41_12, e41_15, e41_16, e41_17, e41_20, e41_21, e41_22, e41_25, e41_26, e41_27, e41_30, e41_31, e41_34, e41_35, e41_38, gf6_6 hB, pf6_0 hB, pf6_1 hB, pf6_2 hB, pf6_3 hB, pf6_4 hB, pf6_5 hB, s118 h1 h2, aft_v, aft_n, Option.bind_some, rf_some, ck_i, ck_r, ck_n, nb0, nb1, nbi, Nat.reduceAdd, if_true, if_false, not_false_eq_true, not_true_eq_false]
  rfl
theorem cp_chain {a b : Nat} (hab : b ≠ a) (α : Mem) : (up2 (up2 (up2 (up2 (up2 (up2 (up2 (up2 (up2 (up2 (up2 (up2 (up2 (up2 (up2 α a 0 (α b 0)) a 1 (α b 1)) a 2 (α b 2)) a 3 (α b 3)) a 4 (α b 4)) a 5 (α b 5)) a 6 (α b 6)) a 7 (α b 7)) a 8 (α b 8)) a 9 (α b 9)) a 10 (α b 10)) a 11 (α b 11)) a 12 (α b 12)) a 13 (α b 13)) a 14 (α b 14)) = cpS α a b := by
  unfold cpS
  funext j m
  by_cases h : j = a
  · subst h
    rw [upA_at]
    unfold cpF
    simp only [up2_a]
    by_cases q : m < 15
    · rw [if_pos q]
      have : m = 0 ∨ m = 1 ∨ m = 2 ∨ m = 3 ∨ m = 4 ∨ m = 5 ∨ m = 6 ∨ m = 7 ∨ m = 8 ∨ m = 9 ∨ m = 10 ∨ m = 11 ∨ m = 12 ∨ m = 13 ∨ m = 14 := by omega
      rcases this with rfl | rfl | rfl | rfl | rfl | rfl | rfl | rfl | rfl | rfl | rfl | rfl | rfl | rfl | rfl <;> rfl
    · rw [if_neg q]
      simp only [show ¬ m = 0 by omega, show ¬ m = 1 by omega, show ¬ m = 2 by omega, show ¬ m = 3 by omega, show ¬ m = 4 by omega, show ¬ m = 5 by omega, show ¬ m = 6 by omega, show ¬ m = 7 by omega, show ¬ m = 8 by omega, show ¬ m = 9 by omega, show ¬ m = 10 by omega, show ¬ m = 11 by omega, show ¬ m = 12 by omega, show ¬ m = 13 by omega, show ¬ m = 14 by omega, if_false]
  · simp only [up2_ne _ h, upA_ne _ h]
theorem s72 {a b : Nat} (ha : kd a = 7) (hb : kd b = 7) (hab : b ≠ a) (h13 : α b 13 = 0 ∨ α b 13 = 1) (h14 : α b 14 = 0 ∨ α b 14 = 1) : Run 72 0 [some (.ref (a)), some (.ref (b))] [] (HC z α π β η o od) = some (.inl none, (HC z (cpS α a b) π β η o od)) := by
  rw [← cp_chain hab]
  simp only [e72_0, e72_1, e72_2, e72_5, e72_8, e72_9, e72_10, e72_13, e72_16, e72_17, e72_18, e72_21, e72_24, e72_25, e72_26, e72_29, e72_32, e72_33, e72_34, e72_37, e72_40, e72_41, e72_42, e72_45, e72_48, e72_49, e72_50, e72_53, e72_56, e72_57, e72_58, e72_61, e72_64, e72_65, e72_66, e72_69, e72_72, e72_73, e72_74, e72_77, e72_80, e72_81, e72_82, e72_85, e72_88, e72_89, e72_90, e72_93, e72_96, e72_97, e72_98, e72_101, e72_104, e72_105, e72_106, e72_109, e72_112, e72_113, e72_114, e72_117, e72_120, gf7_0 hb, gf7_1 hb, gf7_2 hb, gf7_3 hb, gf7_4 hb, gf7_5 hb, gf7_6 hb, gf7_7 hb, gf7_8 hb, gf7_9 hb, gf7_10 hb, gf7_11 hb, gf7_12 hb, gf7_13 hb, gf7_14 hb, pf7_0 ha, pf7_1 ha, pf7_2 ha, pf7_3 ha, pf7_4 ha, pf7_5 ha, pf7_6 ha, pf7_7 ha, pf7_8 ha, pf7_9 ha, pf7_10 ha, pf7_11 ha, pf7_12 ha, pf7_13 ha h13, pf7_14 ha h14, up2_ne _ hab, aft_v, aft_n, Option.bind_some, rf_some, ck_i, ck_r, ck_n, nb0, nb1, nbi, Nat.reduceAdd, if_true, if_false, not_false_eq_true, not_true_eq_false]
end S34
