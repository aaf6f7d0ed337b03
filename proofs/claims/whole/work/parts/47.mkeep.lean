/-! the model: a page made anew, a page kept -/
theorem J_add (a b : Nat) : J a + J b = J (a + b) := (Int32.ofNat_add a b).symm
theorem J_mul (a b : Nat) : J a * J b = J (a * b) := (Int32.ofNat_mul a b).symm
theorem J270 : (270 : Int32) = J 270 := rfl
theorem J810 : (810 : Int32) = J 810 := rfl
theorem upA_upA (α : Mem) (a : Nat) (f g : Nat → Int32) : upA (upA α a f) a g = upA α a g := by
  funext j
  by_cases h : j = a
  · subst h; rw [upA_at, upA_at]
  · rw [upA_ne _ h, upA_ne _ h, upA_ne _ h]
theorem up2_upAt (α : Mem) (a i : Nat) (f : Nat → Int32) (v : Int32) : up2 (upA α a f) a i v = upA α a (upd f i v) := by
  rw [← up2_upA, upA_at, upA_upA]
theorem in72h {k : Nat} (hk : k < 1080) : inB (J k) (aln 72) = true := by rw [al72]; exact inB_J (by omega) (by omega)
def anewB (β : Mem) (c r : Int32) : Mem := up2 (up2 (up2 (up2 (upA β 71 (fillF β 71 270 0)) 71 0 c) 71 1 r) 71 3 2) 71 4 1
def sh3 (q : Nat → Int32) (i : Nat) : Nat → Int32 := fun j => if j < i then q (j + 270) else q j
theorem sh3_0 (q : Nat → Int32) : sh3 q 0 = q := by funext j; unfold sh3; rw [if_neg (by omega)]
theorem sh3_st (q : Nat → Int32) (i : Nat) : upd (sh3 q i) i (sh3 q i (i + 270)) = sh3 q (i + 1) := by
  funext j
  unfold upd sh3
  by_cases h : j = i
  · rw [if_pos h, if_neg (by omega), if_pos (by omega), h]
  · rw [if_neg h]
    by_cases w : j < i
    · rw [if_pos w, if_pos (by omega)]
    · rw [if_neg w, if_neg (by omega)]
def pgW (q p : Nat → Int32) (s i : Nat) : Nat → Int32 := fun j => if 270 * s ≤ j ∧ j < 270 * s + i then p (j - 270 * s) else q j
theorem pgW_0 (q p : Nat → Int32) (s : Nat) : pgW q p s 0 = q := by funext j; unfold pgW; rw [if_neg (by omega)]
theorem pgW_st (q p : Nat → Int32) (s i : Nat) : upd (pgW q p s i) (270 * s + i) (p i) = pgW q p s (i + 1) := by
  funext j
  unfold upd pgW
  by_cases h : j = 270 * s + i
  · rw [if_pos h, if_pos (by omega), h, show 270 * s + i - 270 * s = i by omega]
  · rw [if_neg h]
    by_cases w : 270 * s ≤ j ∧ j < 270 * s + i
    · rw [if_pos w, if_pos (by omega)]
    · rw [if_neg w, if_neg (by omega)]
/-- the model's memory behind keep, k states kept before -/
def keepQ (β : Mem) (k : Nat) : Nat → Int32 := if k = 4 then sh3 (β 72) 810 else β 72
def keepB (β : Mem) (k : Nat) : Mem := up2 (upA β 72 (pgW (keepQ β k) (β 71) (saveK k) 270)) 70 2 (J (saveK k + 1))
theorem up2_com (α : Mem) {a b : Nat} (h : a ≠ b) (k : Nat) (v : Int32) (f : Nat → Int32) : up2 (upA α a f) b k v = upA (up2 α b k v) a f := by
  funext j m
  by_cases h1 : j = a
  · rw [h1, upA_at, up2_ne _ h, upA_at]
  · rw [upA_ne _ h1]
    by_cases h2 : j = b
    · rw [h2, up2_at, up2_at, upA_ne _ (by omega)]
    · rw [up2_ne _ h2, up2_ne _ h2, upA_ne _ h1]
theorem up2_ov (α : Mem) (a k : Nat) (v w : Int32) : up2 (up2 α a k v) a k w = up2 α a k w := by
  funext j m
  by_cases h : j = a
  · subst h; rw [up2_a, up2_a, up2_a]; by_cases q : m = k <;> simp only [q, if_true, if_false]
  · rw [up2_ne _ h, up2_ne _ h, up2_ne _ h]
section S47
variable {z : Zr} {α β γ : Mem} {π : Nat → Nat} {η : Int64} {o : Nat → Int64} {od : Nat → UInt64} {uu : Option Value} {n k : Nat}
theorem s116_l (c r : Int32) : ∀ k i, i + k = 270 → Run 116 2 [some (.ref (70)), some (.int (c)), some (.int (r)), some (.int (J i))] [] (HC z γ π (upA β 71 (fillF β 71 i 0)) η o od) = Run 116 22 [some (.ref (70)), some (.int (c)), some (.int (r)), some (.int (J 270))] [] (HC z γ π (upA β 71 (fillF β 71 270 0)) η o od) := by
  intro k
  induction k with
  | zero =>
    intro i hi
    have : i = 270 := by omega
    subst this
    simp only [↓reduceIte, e116_0, e116_1, e116_2, e116_3, e116_6, e116_9, e116_10, e116_13, e116_14, e116_15, e116_16, e116_19, e116_23, e116_26, e116_27, e116_28, e116_29, e116_30, e116_33, e116_34, e116_35, e116_36, e116_37, e116_40, e116_41, e116_42, e116_43, e116_44, e116_47, e116_48, e116_49, e116_50, J270, Int32.le_refl, aft_v, aft_n, Option.bind_some, rf_some, ck_i, ck_r, ck_n, nb0, nb1, nbi, Nat.reduceAdd, if_true, if_false, not_false_eq_true, not_true_eq_false]
  | succ k ih =>
    intro i hi
    rw [e116_2]
    simp only [↓reduceIte, e116_0, e116_1, e116_3, e116_6, e116_9, e116_10, e116_13, e116_14, e116_15, e116_16, e116_19, e116_23, e116_26, e116_27, e116_28, e116_29, e116_30, e116_33, e116_34, e116_35, e116_36, e116_37, e116_40, e116_41, e116_42, e116_43, e116_44, e116_47, e116_48, e116_49, e116_50, J270, J_le (show 270 < 2147483648 by omega) (show i < 2147483648 by omega), show ¬ 270 ≤ i by omega, gf9_0 kd_70, paI41 kd_71 (in71h (show i < 270 by omega)), J_tn (show i < 2147483648 by omega), fill_st, J_succ, ih (i + 1) (by omega), aft_v, aft_n, Option.bind_some, rf_some, ck_i, ck_r, ck_n, nb0, nb1, nbi, Nat.reduceAdd, if_true, if_false, not_false_eq_true, not_true_eq_false]
theorem s116 (c r : Int32) : Run 116 0 [some (.ref (70)), some (.int (c)), some (.int (r)), none] [] (HC z γ π β η o od) = some (.inl none, (HC z γ π (anewB β c r) η o od)) := by
  have e := s116_l (z := z) (γ := γ) (β := β) (π := π) (η := η) (o := o) (od := od) c r 270 0 (by omega)
  rw [fill_0] at e
  have p0 : ∀ (β' : Mem) v, paI (HC z γ π β' η o od) 71 0 v = some (HC z γ π (up2 β' 71 0 v) η o od) := fun β' v => paI41 kd_71 (in71h (k := 0) (by decide))
  have p1 : ∀ (β' : Mem) v, paI (HC z γ π β' η o od) 71 1 v = some (HC z γ π (up2 β' 71 1 v) η o od) := fun β' v => paI41 kd_71 (in71h (k := 1) (by decide))
  have p3 : ∀ (β' : Mem) v, paI (HC z γ π β' η o od) 71 3 v = some (HC z γ π (up2 β' 71 3 v) η o od) := fun β' v => paI41 kd_71 (in71h (k := 3) (by decide))
  have p4 : ∀ (β' : Mem) v, paI (HC z γ π β' η o od) 71 4 v = some (HC z γ π (up2 β' 71 4 v) η o od) := fun β' v => paI41 kd_71 (in71h (k := 4) (by decide))
  rw [J0.symm] at e
  simp only [e116_0, e116_1, aft_v, aft_n, Option.bind_some, rf_some, ck_i, ck_r, ck_n, nb0, nb1, nbi, Nat.reduceAdd, if_true, if_false, not_false_eq_true, not_true_eq_false]
  rw [e]
  simp only [↓reduceIte, e116_0, e116_1, e116_3, e116_6, e116_9, e116_10, e116_13, e116_14, e116_15, e116_16, e116_19, e116_22, e116_23, e116_26, e116_27, e116_28, e116_29, e116_30, e116_33, e116_34, e116_35, e116_36, e116_37, e116_40, e116_41, e116_42, e116_43, e116_44, e116_47, e116_48, e116_49, e116_50, gf9_0 kd_70, p0, p1, p3, p4, aft_v, aft_n, Option.bind_some, rf_some, ck_i, ck_r, ck_n, nb0, nb1, nbi, Nat.reduceAdd, if_true, if_false, not_false_eq_true, not_true_eq_false]
  rfl
theorem new_4 (α : Mem) (c r : Int32) (m : Nat) : newC α 4 c r 4 m = up2 (up2 (up2 (up2 (up2 (up2 α 4 0 c) 4 1 r) 4 2 0) 4 3 2) 4 4 1) 4 5 0 4 m := by
  unfold newC fillC
  rw [upA_ne _ (by decide)]
theorem new_5 (α : Mem) (c r : Int32) (m : Nat) (hm : m < 144) : newC α 4 c r 5 m = 0 := by
  unfold newC fillC
  rw [upA_at]
  unfold fillF
  rw [if_pos (show m < aln (4 + 1) by rw [show aln (4 + 1) = 144 from by decide]; exact hm)]
theorem Rm_new (β α : Mem) (c r : Int32) : Rm (anewB β c r 71) (newC α 4 c r) 0 := by
  have h4 := new_4 α c r
  have h5 := new_5 α c r
  refine ⟨fun m hm => ?_, fun m hm => ?_, fun i hi => absurd hi (Nat.not_lt_zero i)⟩
  · rw [h4]
    unfold anewB
    simp only [up2_a, upA_at]
    have : m = 0 ∨ m = 1 ∨ m = 2 ∨ m = 3 ∨ m = 4 ∨ m = 5 := by omega
    rcases this with rfl | rfl | rfl | rfl | rfl | rfl <;> rfl
  · rw [h5 m hm]
    unfold anewB
    simp only [up2_a, upA_at]
    rw [if_neg (by omega), if_neg (by omega), if_neg (by omega), if_neg (by omega)]
    unfold fillF
    rw [if_pos (by omega)]
theorem Md_anew (β : Mem) (c r : Int32) : Md β (anewB β c r) := by
  unfold anewB
  exact Md_up (Md_up (Md_up (Md_up (fun j hj => upA_ne _ hj _) _ _) _ _) _ _) _ _
theorem s121_a : ∀ k i, i + k = 810 → Run 121 10 [some (.ref (70)), some (.int (J i))] [] (HC z γ π (upA β 72 (sh3 (β 72) i)) η o od) = Run 121 39 [some (.ref (70)), some (.int (J 810))] [] (HC z γ π (upA β 72 (sh3 (β 72) 810)) η o od) := by
  intro k
  induction k with
  | zero =>
    intro i hi
    have : i = 810 := by omega
    subst this
    simp only [↓reduceIte, e121_0, e121_1, e121_4, e121_5, e121_8, e121_9, e121_10, e121_11, e121_14, e121_17, e121_18, e121_21, e121_22, e121_23, e121_26, e121_27, e121_30, e121_31, e121_32, e121_33, e121_36, e121_40, e121_41, e121_44, e121_45, e121_46, e121_49, e121_50, e121_51, e121_52, e121_55, e121_58, e121_59, e121_62, e121_65, e121_66, e121_69, e121_70, e121_71, e121_72, e121_73, e121_76, e121_77, e121_78, e121_79, e121_82, e121_85, e121_86, e121_87, e121_90, e121_91, e121_92, e121_95, J810, Int32.le_refl, aft_v, aft_n, Option.bind_some, rf_some, ck_i, ck_r, ck_n, nb0, nb1, nbi, Nat.reduceAdd, if_true, if_false, not_false_eq_true, not_true_eq_false]
  | succ k ih =>
    intro i hi
    rw [e121_10]
    simp only [↓reduceIte, e121_0, e121_1, e121_4, e121_5, e121_8, e121_9, e121_11, e121_14, e121_17, e121_18, e121_21, e121_22, e121_23, e121_26, e121_27, e121_30, e121_31, e121_32, e121_33, e121_36, e121_40, e121_41, e121_44, e121_45, e121_46, e121_49, e121_50, e121_51, e121_52, e121_55, e121_58, e121_59, e121_62, e121_65, e121_66, e121_69, e121_70, e121_71, e121_72, e121_73, e121_76, e121_77, e121_78, e121_79, e121_82, e121_85, e121_86, e121_87, e121_90, e121_91, e121_92, e121_95, J270, J810, J_le (show 810 < 2147483648 by omega) (show i < 2147483648 by omega), show ¬ 810 ≤ i by omega, gf9_1 kd_70, J_add, gaI41 kd_72 (in72h (show i + 270 < 1080 by omega)), paI41 kd_72 (in72h (show i < 1080 by omega)), J_tn (show i < 2147483648 by omega), J_tn (show i + 270 < 2147483648 by omega), upA_at, up2_upAt, sh3_st, J_succ, ih (i + 1) (by omega), aft_v, aft_n, Option.bind_some, rf_some, ck_i, ck_r, ck_n, nb0, nb1, nbi, Nat.reduceAdd, if_true, if_false, not_false_eq_true, not_true_eq_false]
theorem s121_b {s : Nat} (hs : s < 4) (hk : β 70 2 = J s) (q : Nat → Int32) : ∀ k i, i + k = 270 → Run 121 51 [some (.ref (70)), some (.int (J i))] [] (HC z γ π (upA β 72 (pgW q (β 71) s i)) η o od) = Run 121 85 [some (.ref (70)), some (.int (J 270))] [] (HC z γ π (upA β 72 (pgW q (β 71) s 270)) η o od) := by
  intro k
  induction k with
  | zero =>
    intro i hi
    have : i = 270 := by omega
    subst this
    simp only [↓reduceIte, e121_0, e121_1, e121_4, e121_5, e121_8, e121_9, e121_10, e121_11, e121_14, e121_17, e121_18, e121_21, e121_22, e121_23, e121_26, e121_27, e121_30, e121_31, e121_32, e121_33, e121_36, e121_39, e121_40, e121_41, e121_44, e121_45, e121_46, e121_49, e121_50, e121_51, e121_52, e121_55, e121_58, e121_59, e121_62, e121_65, e121_66, e121_69, e121_70, e121_71, e121_72, e121_73, e121_76, e121_77, e121_78, e121_79, e121_82, e121_86, e121_87, e121_90, e121_91, e121_92, e121_95, J270, Int32.le_refl, aft_v, aft_n, Option.bind_some, rf_some, ck_i, ck_r, ck_n, nb0, nb1, nbi, Nat.reduceAdd, if_true, if_false, not_false_eq_true, not_true_eq_false]
  | succ k ih =>
    intro i hi
    rw [e121_51]
    have h70 : (upA β 72 (pgW q (β 71) s i)) 70 = β 70 := upA_ne _ (by decide) _
    have h71 : (upA β 72 (pgW q (β 71) s i)) 71 = β 71 := upA_ne _ (by decide) _
    simp only [↓reduceIte, e121_0, e121_1, e121_4, e121_5, e121_8, e121_9, e121_10, e121_11, e121_14, e121_17, e121_18, e121_21, e121_22, e121_23, e121_26, e121_27, e121_30, e121_31, e121_32, e121_33, e121_36, e121_39, e121_40, e121_41, e121_44, e121_45, e121_46, e121_49, e121_50, e121_52, e121_55, e121_58, e121_59, e121_62, e121_65, e121_66, e121_69, e121_70, e121_71, e121_72, e121_73, e121_76, e121_77, e121_78, e121_79, e121_82, e121_86, e121_87, e121_90, e121_91, e121_92, e121_95, J270, J_le (show 270 < 2147483648 by omega) (show i < 2147483648 by omega), show ¬ 270 ≤ i by omega, gf9_0 kd_70, gf9_1 kd_70, gf9_2 kd_70, h70, h71, hk, J_mul, J_add, gaI41 kd_71 (in71h (show i < 270 by omega)), paI41 kd_72 (in72h (show 270 * s + i < 1080 by omega)), J_tn (show i < 2147483648 by omega), J_tn (show 270 * s + i < 2147483648 by omega), up2_upAt, pgW_st, J_succ, ih (i + 1) (by omega), aft_v, aft_n, Option.bind_some, rf_some, ck_i, ck_r, ck_n, nb0, nb1, nbi, Nat.reduceAdd, if_true, if_false, not_false_eq_true, not_true_eq_false]
theorem s121_c {s : Nat} (hs : s < 4) (hk : β 70 2 = J s) : Run 121 49 [some (.ref (70)), uu] [] (HC z γ π β η o od) = some (.inl none, (HC z γ π (up2 (upA β 72 (pgW (β 72) (β 71) s 270)) 70 2 (J (s + 1))) η o od)) := by
  have e := s121_b (z := z) (γ := γ) (β := β) (π := π) (η := η) (o := o) (od := od) hs hk (β 72) 270 0 (by omega)
  rw [pgW_0, show upA β 72 (β 72) = β from by funext j; by_cases h : j = 72; (rw [h, upA_at]); (rw [upA_ne _ h])] at e
  have h70 : (upA β 72 (pgW (β 72) (β 71) s 270)) 70 = β 70 := upA_ne _ (by decide) _
  have J01 : (0 : Int32) = J 0 := rfl
  simp only [e121_49, e121_50, aft_v, aft_n, Option.bind_some, rf_some, ck_i, ck_r, ck_n, nb0, nb1, nbi, Nat.reduceAdd, if_true, if_false, not_false_eq_true, not_true_eq_false]
  rw [J01, e]
  simp only [↓reduceIte, e121_0, e121_1, e121_4, e121_5, e121_8, e121_9, e121_11, e121_14, e121_17, e121_18, e121_21, e121_22, e121_23, e121_26, e121_27, e121_30, e121_31, e121_32, e121_33, e121_36, e121_39, e121_40, e121_41, e121_44, e121_45, e121_46, e121_49, e121_50, e121_52, e121_55, e121_58, e121_59, e121_62, e121_65, e121_66, e121_69, e121_70, e121_71, e121_72, e121_73, e121_76, e121_77, e121_78, e121_79, e121_82, e121_85, e121_86, e121_87, e121_90, e121_91, e121_92, e121_95, gf9_2 kd_70, h70, hk, J_succ, pf9_2 kd_70, aft_v, aft_n, Option.bind_some, rf_some, ck_i, ck_r, ck_n, nb0, nb1, nbi, Nat.reduceAdd, if_true, if_false, not_false_eq_true, not_true_eq_false]
theorem s121 (hk : β 70 2 = J k) (h4 : k ≤ 4) : Run 121 0 [some (.ref (70)), none] [] (HC z γ π β η o od) = some (.inl none, (HC z γ π (keepB β k) η o od)) := by
  unfold keepB keepQ saveK
  by_cases q : k = 4
  · subst q
    have e := s121_a (z := z) (γ := γ) (β := β) (π := π) (η := η) (o := o) (od := od) 810 0 (by omega)
    rw [sh3_0, show upA β 72 (β 72) = β from by funext j; by_cases h : j = 72; (rw [h, upA_at]); (rw [upA_ne _ h])] at e
    have J01 : (0 : Int32) = J 0 := rfl
    have h70 : (upA β 72 (sh3 (β 72) 810)) 70 = β 70 := upA_ne _ (by decide) _
    have e41 : J 4 - 1 = J 3 := by decide
    have e2 := s121_c (z := z) (γ := γ) (π := π) (η := η) (o := o) (od := od) (β := up2 (upA β 72 (sh3 (β 72) 810)) 70 2 (J 3)) (s := 3) (uu := some (.int (J 810))) (by omega) (up2_rr ..)
    rw [up2_ne _ (show (72 : Nat) ≠ 70 by decide), upA_at, up2_ne _ (show (71 : Nat) ≠ 70 by decide), upA_ne _ (show (71 : Nat) ≠ 72 by decide)] at e2
    rw [if_pos rfl, if_pos rfl]
    simp only [↓reduceIte, e121_0, e121_1, e121_4, e121_5, e121_8, e121_9, gf9_2 kd_70, hk, show (4 : Int32) = J 4 from rfl, J01, e, aft_v, aft_n, Option.bind_some, rf_some, ck_i, ck_r, ck_n, nb0, nb1, nbi, Nat.reduceAdd, if_true, if_false, not_false_eq_true, not_true_eq_false]
    simp only [e121_39, e121_40, e121_41, e121_44, e121_45, e121_46, gf9_2 kd_70, h70, hk, e41, pf9_2 kd_70, e2, aft_v, aft_n, Option.bind_some, rf_some, ck_i, ck_r, ck_n, nb0, nb1, nbi, Nat.reduceAdd, if_true, if_false, not_false_eq_true, not_true_eq_false]
    congr 2
    congr 1
    simp only [up2_com _ (show (72 : Nat) ≠ 70 by decide), upA_upA, up2_ov]
  · rw [if_neg q, if_neg q]
    have e2 := s121_c (z := z) (γ := γ) (β := β) (π := π) (η := η) (o := o) (od := od) (s := k) (uu := none) (by omega) hk
    rw [← e2]
    simp only [↓reduceIte, e121_0, e121_1, e121_4, e121_5, gf9_2 kd_70, hk, show (4 : Int32) = J 4 from rfl, J_eq (show k < 2147483648 by omega) (show 4 < 2147483648 by omega), q, aft_v, aft_n, Option.bind_some, rf_some, ck_i, ck_r, ck_n, nb0, nb1, nbi, Nat.reduceAdd, if_true, if_false, not_false_eq_true, not_true_eq_false]
end S47
