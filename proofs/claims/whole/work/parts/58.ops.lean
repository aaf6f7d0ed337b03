/-! moves and fights: the model's public methods, and the calls -/
theorem l30 : ((3 : Int32) = 0) = False := eq_false (by decide)
section S58
variable {z : Zr} {α β γ : Mem} {π : Nat → Nat} {η : Int64} {o : Nat → Int64} {od : Nat → UInt64} {n l k : Nat}
theorem kept (hk : β 70 2 = J k) (h4 : k ≤ 4) (v : Int32) : Run 121 0 [some (.ref (70)), none] [] (HC z γ π (up2 β 70 5 v) η o od) = some (.inl none, (HC z γ π (keepB (up2 β 70 5 v) k) η o od)) :=
  s121 (by rw [up2_rd _ _ _ _ _ (by decide)]; exact hk) h4
theorem bs_tab : ∀ j, j < 8 → J (2 * j) / 2 = J j ∧ J (2 * j) - J (2 * j) / 2 * 2 = 0 ∧ (J (2 * j) + 1) / 2 = J j ∧ J (2 * j) + 1 - (J (2 * j) + 1) / 2 * 2 = 1 ∧ 2 * J j + 0 = J (2 * j) ∧ 2 * J j + 1 = J (2 * j) + 1 ∧ J (2 * j) + 1 + 1 = J (2 * (j + 1)) := by decide +kernel
theorem force_self (α : Mem) (n i : Nat) (g : Int32) : forceC α n i g i = 0 := by
  unfold forceC
  rw [if_neg (fun w : canFC α n i g i => w.1.2.2 rfl)]
theorem q2' : ¬ (2 : Int32) = 0 := by decide
theorem s192_1 (H : Ok α n) (R : Rm (β 71) α n) (D : Dj α n) {i j : Nat} (hi : i < n) (hj : j < n) {g : Int32} (hg : g = 0 ∨ g = 1) {x : Int32} (h1 : x / 2 = J j) (h2 : x - x / 2 * 2 = g) (hx : x < 2 * J n) (b : Int32 × Int32) (u : Option Value) : ∃ u', Run 192 33 [some (.ref (70)), some (.int (J i)), some (.int (b.1)), some (.int (b.2)), some (.int (x)), u] [] (HC z γ π β η o od) = Run 192 33 [some (.ref (70)), some (.int (J i)), some (.int ((if b.2 < forceC α n i g j then x else b.1))), some (.int ((if b.2 < forceC α n i g j then forceC α n i g j else b.2))), some (.int (x + 1)), u'] [] (HC z γ π β η o od) := by
  have h8 := H.n8
  refine ⟨some (.int (forceC α n i g j)), ?_⟩
  rw [e192_33]
  by_cases hij : j = i
  · subst hij
    rw [force_self]
    have e1 : (J j = J j) = True := eq_true rfl
    by_cases q : b.2 < 0 <;> simp only [↓reduceIte, e192_0, e192_1, e192_2, e192_3, e192_6, e192_9, e192_10, e192_13, e192_14, e192_17, e192_18, e192_21, e192_24, e192_25, e192_26, e192_27, e192_28, e192_29, e192_30, e192_31, e192_35, e192_36, e192_37, e192_40, e192_41, e192_42, e192_43, e192_46, e192_48, e192_49, e192_50, e192_51, e192_54, e192_55, e192_58, e192_59, e192_60, e192_62, e192_63, e192_64, e192_66, e192_67, e192_68, e192_71, e192_73, e192_75, e192_76, e192_79, e192_81, e192_84, e192_85, e192_86, e192_88, e192_89, e192_92, e192_94, e192_97, e192_98, e192_99, e192_102, e192_105, e192_106, gf9_0 kd_70, isO70, m71_5 R, H.hn, hx, le_not, q2', h1, q, aft_v, aft_n, Option.bind_some, rf_some, ck_i, ck_r, ck_n, nb0, nb1, nbi, Nat.reduceAdd, if_true, if_false, not_false_eq_true, not_true_eq_false]
  · have e1 : (J j = J i) = False := eq_false (Jne (by omega) (by omega) hij)
    have e2 : Run 169 0 [some (.ref (70)), some (.int (J i)), some (.int (g)), some (.int (J j)), none, none, none] [] (HC z γ π β η o od) = _ := s169 H R D hi hj (fun w => hij w.symm) hg
    rw [h1] at h2
    by_cases q : b.2 < forceC α n i g j <;> simp only [↓reduceIte, e192_0, e192_1, e192_2, e192_3, e192_6, e192_9, e192_10, e192_13, e192_14, e192_17, e192_18, e192_21, e192_24, e192_25, e192_26, e192_27, e192_28, e192_29, e192_30, e192_31, e192_35, e192_36, e192_37, e192_40, e192_41, e192_42, e192_43, e192_46, e192_48, e192_49, e192_50, e192_51, e192_54, e192_55, e192_58, e192_59, e192_60, e192_62, e192_63, e192_64, e192_66, e192_67, e192_68, e192_71, e192_73, e192_75, e192_76, e192_79, e192_81, e192_84, e192_85, e192_86, e192_88, e192_89, e192_92, e192_94, e192_97, e192_98, e192_99, e192_102, e192_105, e192_106, gf9_0 kd_70, isO70, m71_5 R, H.hn, hx, le_not, q2', h1, e1, h2, e2, q, aft_v, aft_n, Option.bind_some, rf_some, ck_i, ck_r, ck_n, nb0, nb1, nbi, Nat.reduceAdd, if_true, if_false, not_false_eq_true, not_true_eq_false]
theorem s192_l (H : Ok α n) (R : Rm (β 71) α n) (D : Dj α n) {i : Nat} (hi : i < n) : ∀ k j (b : Int32 × Int32) (u : Option Value), j + k = n → Run 192 33 [some (.ref (70)), some (.int (J i)), some (.int (b.1)), some (.int (b.2)), some (.int (J (2 * j))), u] [] (HC z γ π β η o od) = some (.inl (some (.int ((bsL α n i k j b).1))), (HC z γ π β η o od)) := by
  have h8 := H.n8
  have e2n : 2 * J n = J (2 * n) := J_mul 2 n
  intro k
  induction k with
  | zero =>
    intro j b u hj
    have : j = n := by omega
    subst this
    simp only [↓reduceIte, e192_0, e192_1, e192_2, e192_3, e192_6, e192_9, e192_10, e192_13, e192_14, e192_17, e192_18, e192_21, e192_24, e192_25, e192_26, e192_27, e192_28, e192_29, e192_30, e192_31, e192_33, e192_35, e192_36, e192_37, e192_40, e192_41, e192_42, e192_43, e192_46, e192_48, e192_49, e192_50, e192_51, e192_54, e192_55, e192_58, e192_59, e192_60, e192_62, e192_63, e192_64, e192_66, e192_67, e192_68, e192_71, e192_73, e192_75, e192_76, e192_79, e192_81, e192_84, e192_85, e192_86, e192_88, e192_89, e192_92, e192_94, e192_97, e192_98, e192_99, e192_102, e192_105, e192_106, gf9_0 kd_70, m71_5 R, H.hn, e2n, Int32.le_refl, bsL, aft_v, aft_n, Option.bind_some, rf_some, ck_i, ck_r, ck_n, nb0, nb1, nbi, Nat.reduceAdd, if_true, if_false, not_false_eq_true, not_true_eq_false]
  | succ k ih =>
    intro j b u hj
    have hjn : j < n := by omega
    obtain ⟨t1, t2, t3, t4, t5, t6, t7⟩ := bs_tab j (by omega)
    obtain ⟨u1, e1⟩ := s192_1 (z := z) (γ := γ) (π := π) (η := η) (o := o) (od := od) H R D hi hjn (Or.inl rfl) t1 t2 (by rw [e2n, J_lt (by omega) (by omega)]; omega) b u
    obtain ⟨u2, e2⟩ := s192_1 (z := z) (γ := γ) (π := π) (η := η) (o := o) (od := od) H R D hi hjn (Or.inr rfl) t3 t4 (by rw [e2n, J_succ, J_lt (by omega) (by omega)]; omega) (if b.2 < forceC α n i 0 j then J (2 * j) else b.1, if b.2 < forceC α n i 0 j then forceC α n i 0 j else b.2) u1
    rw [e1, e2, t7]
    have f0 : bsF α n i j 0 b = (if b.2 < forceC α n i 0 j then J (2 * j) else b.1, if b.2 < forceC α n i 0 j then forceC α n i 0 j else b.2) := by
      unfold bsF; rw [t5]; split <;> rfl
    have f1 : ∀ c : Int32 × Int32, bsF α n i j 1 c = (if c.2 < forceC α n i 1 j then J (2 * j) + 1 else c.1, if c.2 < forceC α n i 1 j then forceC α n i 1 j else c.2) := fun c => by
      unfold bsF; rw [t6]; split <;> rfl
    rw [bsL, f0, f1]
    exact ih (j + 1) (if (if b.2 < forceC α n i 0 j then J (2 * j) else b.1, if b.2 < forceC α n i 0 j then forceC α n i 0 j else b.2).2 < forceC α n i 1 j then J (2 * j) + 1 else (if b.2 < forceC α n i 0 j then J (2 * j) else b.1, if b.2 < forceC α n i 0 j then forceC α n i 0 j else b.2).1, if (if b.2 < forceC α n i 0 j then J (2 * j) else b.1, if b.2 < forceC α n i 0 j then forceC α n i 0 j else b.2).2 < forceC α n i 1 j then forceC α n i 1 j else (if b.2 < forceC α n i 0 j then J (2 * j) else b.1, if b.2 < forceC α n i 0 j then forceC α n i 0 j else b.2).2) u2 (by omega)
theorem s192 (H : Ok α n) (R : Rm (β 71) α n) (D : Dj α n) {i : Nat} (hi : i < n) : Run 192 0 [some (.ref (70)), some (.int (J i)), none, none, none, none] [] (HC z γ π β η o od) = some (.inl (some (.int ((bsL α n i n 0 (-1, 0)).1))), (HC z γ π (up2 β 70 5 0) η o od)) := by
  have h := s192_l (z := z) (γ := γ) (π := π) (η := η) (o := o) (od := od) (β := up2 β 70 5 0) H (Rm_cd R 5 0) D hi n 0 (-1, 0) none (by omega)
  rw [← h]
  simp only [↓reduceIte, e192_0, e192_1, e192_2, e192_3, e192_6, e192_9, e192_10, e192_13, e192_14, e192_17, e192_18, e192_21, e192_24, e192_25, e192_26, e192_27, e192_28, e192_29, e192_30, e192_31, e192_35, e192_36, e192_37, e192_40, e192_41, e192_42, e192_43, e192_46, e192_48, e192_49, e192_50, e192_51, e192_54, e192_55, e192_58, e192_59, e192_60, e192_62, e192_63, e192_64, e192_66, e192_67, e192_68, e192_71, e192_73, e192_75, e192_76, e192_79, e192_81, e192_84, e192_85, e192_86, e192_88, e192_89, e192_92, e192_94, e192_97, e192_98, e192_99, e192_102, e192_105, e192_106, isO70, s124 H R, bi_t (isShip_J H.hn H.n8 hi), i1_0, pf9_5 kd_70, gf9_5 kd_70, up2_rr, Nat.mul_zero, show J 0 = (0 : Int32) from rfl, aft_v, aft_n, Option.bind_some, rf_some, ck_i, ck_r, ck_n, nb0, nb1, nbi, Nat.reduceAdd, if_true, if_false, not_false_eq_true, not_true_eq_false]
theorem s192n (H : Ok α n) (R : Rm (β 71) α n) {c : Int32} (h : ¬ isShipC α 4 c) : Run 192 0 [some (.ref (70)), some (.int (c)), none, none, none, none] [] (HC z γ π β η o od) = some (.inl (some (.int (0))), (HC z γ π (up2 β 70 5 1) η o od)) := by
  simp only [↓reduceIte, e192_0, e192_1, e192_2, e192_3, e192_6, e192_9, e192_10, e192_13, e192_14, e192_17, e192_18, e192_21, e192_24, e192_25, e192_26, e192_27, e192_28, e192_29, e192_30, e192_31, e192_35, e192_36, e192_37, e192_40, e192_41, e192_42, e192_43, e192_46, e192_48, e192_49, e192_50, e192_51, e192_54, e192_55, e192_58, e192_59, e192_60, e192_62, e192_63, e192_64, e192_66, e192_67, e192_68, e192_71, e192_73, e192_75, e192_76, e192_79, e192_81, e192_84, e192_85, e192_86, e192_88, e192_89, e192_92, e192_94, e192_97, e192_98, e192_99, e192_102, e192_105, e192_106, isO70, s124 H R, bi_f h, i1_0, pf9_5 kd_70, gf9_5 kd_70, up2_rr, aft_v, aft_n, Option.bind_some, rf_some, ck_i, ck_r, ck_n, nb0, nb1, nbi, Nat.reduceAdd, if_true, if_false, not_false_eq_true, not_true_eq_false]
theorem s193_l (H : Ok α n) (R : Rm (β 71) α n) {i : Nat} (hi : i < n) : ∀ k d b, d + k = 6 → b < 6 → Run 193 30 [some (.ref (70)), some (.int (J i)), some (.int (J b)), some (.int (J d))] [] (HC z γ π β η o od) = some (.inl (some (.int (J (fwF (spdC α (7 + i) (hdA α (7 + i))) k d b)))), (HC z γ π β η o od)) := by
  intro k
  induction k with
  | zero =>
    intro d b hd hb
    have : d = 6 := by omega
    subst this
    simp only [↓reduceIte, e193_0, e193_1, e193_2, e193_3, e193_6, e193_9, e193_10, e193_13, e193_14, e193_17, e193_18, e193_21, e193_24, e193_25, e193_26, e193_27, e193_28, e193_29, e193_30, e193_31, e193_33, e193_36, e193_37, e193_38, e193_39, e193_42, e193_43, e193_44, e193_45, e193_48, e193_51, e193_52, e193_55, e193_56, e193_57, e193_60, e193_63, e193_64, J6, Int32.le_refl, fwF, aft_v, aft_n, Option.bind_some, rf_some, ck_i, ck_r, ck_n, nb0, nb1, nbi, Nat.reduceAdd, if_true, if_false, not_false_eq_true, not_true_eq_false]
  | succ k ih =>
    intro d b hd hb
    rw [e193_30]
    have e1 : Run 144 0 [some (.ref (70)), some (.int (J i)), some (.int (J d)), none, none] [] (HC z γ π β η o od) = _ := s144 H R hi (show d < 6 by omega)
    have e2 : Run 144 0 [some (.ref (70)), some (.int (J i)), some (.int (J b)), none, none] [] (HC z γ π β η o od) = _ := s144 H R hi hb
    by_cases q : spdC α (7 + i) (hdA α (7 + i)) b < spdC α (7 + i) (hdA α (7 + i)) d
    · rw [fwF, if_pos q, ← ih (d + 1) d (by omega) (by omega)]
      simp only [↓reduceIte, e193_0, e193_1, e193_2, e193_3, e193_6, e193_9, e193_10, e193_13, e193_14, e193_17, e193_18, e193_21, e193_24, e193_25, e193_26, e193_27, e193_28, e193_29, e193_31, e193_33, e193_36, e193_37, e193_38, e193_39, e193_42, e193_43, e193_44, e193_45, e193_48, e193_51, e193_52, e193_55, e193_56, e193_57, e193_60, e193_63, e193_64, J6, J_le (show 6 < 2147483648 by omega) (show d < 2147483648 by omega), show ¬ 6 ≤ d by omega, isO70, e1, e2, q, le_not, J_succ, aft_v, aft_n, Option.bind_some, rf_some, ck_i, ck_r, ck_n, nb0, nb1, nbi, Nat.reduceAdd, if_true, if_false, not_false_eq_true, not_true_eq_false]
    · rw [fwF, if_neg q, ← ih (d + 1) b (by omega) hb]
      simp only [↓reduceIte, e193_0, e193_1, e193_2, e193_3, e193_6, e193_9, e193_10, e193_13, e193_14, e193_17, e193_18, e193_21, e193_24, e193_25, e193_26, e193_27, e193_28, e193_29, e193_31, e193_33, e193_36, e193_37, e193_38, e193_39, e193_42, e193_43, e193_44, e193_45, e193_48, e193_51, e193_52, e193_55, e193_56, e193_57, e193_60, e193_63, e193_64, J6, J_le (show 6 < 2147483648 by omega) (show d < 2147483648 by omega), show ¬ 6 ≤ d by omega, isO70, e1, e2, q, le_not, J_succ, aft_v, aft_n, Option.bind_some, rf_some, ck_i, ck_r, ck_n, nb0, nb1, nbi, Nat.reduceAdd, if_true, if_false, not_false_eq_true, not_true_eq_false]
theorem s193 (H : Ok α n) (R : Rm (β 71) α n) {i : Nat} (hi : i < n) : Run 193 0 [some (.ref (70)), some (.int (J i)), none, none] [] (HC z γ π β η o od) = some (.inl (some (.int (J (fwF (spdC α (7 + i) (hdA α (7 + i))) 5 1 0)))), (HC z γ π (up2 β 70 5 0) η o od)) := by
  have h := s193_l (z := z) (γ := γ) (π := π) (η := η) (o := o) (od := od) (β := up2 β 70 5 0) H (Rm_cd R 5 0) hi 5 1 0 (by omega) (by omega)
  rw [← h]
  simp only [↓reduceIte, e193_0, e193_1, e193_2, e193_3, e193_6, e193_9, e193_10, e193_13, e193_14, e193_17, e193_18, e193_21, e193_24, e193_25, e193_26, e193_27, e193_28, e193_29, e193_31, e193_33, e193_36, e193_37, e193_38, e193_39, e193_42, e193_43, e193_44, e193_45, e193_48, e193_51, e193_52, e193_55, e193_56, e193_57, e193_60, e193_63, e193_64, isO70, s124 H R, bi_t (isShip_J H.hn H.n8 hi), i1_0, pf9_5 kd_70, gf9_5 kd_70, up2_rr, show J 0 = (0 : Int32) from rfl, show J 1 = (1 : Int32) from rfl, aft_v, aft_n, Option.bind_some, rf_some, ck_i, ck_r, ck_n, nb0, nb1, nbi, Nat.reduceAdd, if_true, if_false, not_false_eq_true, not_true_eq_false]
theorem s193n (H : Ok α n) (R : Rm (β 71) α n) {c : Int32} (h : ¬ isShipC α 4 c) : Run 193 0 [some (.ref (70)), some (.int (c)), none, none] [] (HC z γ π β η o od) = some (.inl (some (.int (0))), (HC z γ π (up2 β 70 5 1) η o od)) := by
  simp only [↓reduceIte, e193_0, e193_1, e193_2, e193_3, e193_6, e193_9, e193_10, e193_13, e193_14, e193_17, e193_18, e193_21, e193_24, e193_25, e193_26, e193_27, e193_28, e193_29, e193_31, e193_33, e193_36, e193_37, e193_38, e193_39, e193_42, e193_43, e193_44, e193_45, e193_48, e193_51, e193_52, e193_55, e193_56, e193_57, e193_60, e193_63, e193_64, isO70, s124 H R, bi_f h, i1_0, pf9_5 kd_70, gf9_5 kd_70, up2_rr, aft_v, aft_n, Option.bind_some, rf_some, ck_i, ck_r, ck_n, nb0, nb1, nbi, Nat.reduceAdd, if_true, if_false, not_false_eq_true, not_true_eq_false]
theorem s171 (H : Ok α n) (R : Rm (β 71) α n) (D : Dj α n) {i j : Nat} (hi : i < n) (hj : j < n) (hij : i ≠ j) {r : Int32} (hr : r = 0 ∨ r = 1) : Run 171 0 [some (.ref (70)), some (.int (J i)), some (.int (r)), some (.int (J j))] [] (HC z γ π β η o od) = some (.inl (some (.int (forceC α n i r j))), (HC z γ π (up2 β 70 5 0) η o od)) := by
  have h8 := H.n8
  have hp : Run 170 0 [some (.ref (70)), some (.int (J i)), some (.int (J j))] [] (HC z γ π β η o od) = some (.inl (some (.int (0))), (HC z γ π β η o od)) := by rw [s170 H R, if_pos ⟨isShip_J H.hn h8 hi, isShip_J H.hn h8 hj⟩, if_neg (Jne (by omega) (by omega) hij)]
  have hf : Run 169 0 [some (.ref (70)), some (.int (J i)), some (.int (r)), some (.int (J j)), none, none, none] [] (HC z γ π (up2 β 70 5 0) η o od) = _ := s169 H (Rm_cd R 5 0) D hi hj hij hr
  rcases hr with rfl | rfl <;> simp only [↓reduceIte, e171_0, e171_1, e171_2, e171_3, e171_4, e171_7, e171_10, e171_11, e171_14, e171_17, e171_18, e171_21, e171_22, e171_23, e171_24, e171_27, e171_28, e171_31, e171_32, e171_33, e171_36, isO70, hp, hf, i1_0, pf9_5 kd_70, gf9_5 kd_70, up2_rr, aft_v, aft_n, Option.bind_some, rf_some, ck_i, ck_r, ck_n, nb0, nb1, nbi, Nat.reduceAdd, if_true, if_false, not_false_eq_true, not_true_eq_false]
theorem s171n (H : Ok α n) (R : Rm (β 71) α n) {a b r : Int32} (h : ¬ (isShipC α 4 a ∧ isShipC α 4 b)) : Run 171 0 [some (.ref (70)), some (.int (a)), some (.int (r)), some (.int (b))] [] (HC z γ π β η o od) = some (.inl (some (.int (0))), (HC z γ π (up2 β 70 5 1) η o od)) := by
  have hp : Run 170 0 [some (.ref (70)), some (.int (a)), some (.int (b))] [] (HC z γ π β η o od) = some (.inl (some (.int (1))), (HC z γ π β η o od)) := by rw [s170 H R, if_neg h]
  simp only [↓reduceIte, e171_0, e171_1, e171_2, e171_3, e171_4, e171_7, e171_10, e171_11, e171_14, e171_17, e171_18, e171_21, e171_22, e171_23, e171_24, e171_27, e171_28, e171_31, e171_32, e171_33, e171_36, isO70, hp, i1_0, pf9_5 kd_70, gf9_5 kd_70, up2_rr, aft_v, aft_n, Option.bind_some, rf_some, ck_i, ck_r, ck_n, nb0, nb1, nbi, Nat.reduceAdd, if_true, if_false, not_false_eq_true, not_true_eq_false]
theorem s171e (H : Ok α n) (R : Rm (β 71) α n) {a r : Int32} (h : isShipC α 4 a) : Run 171 0 [some (.ref (70)), some (.int (a)), some (.int (r)), some (.int (a))] [] (HC z γ π β η o od) = some (.inl (some (.int (0))), (HC z γ π (up2 β 70 5 2) η o od)) := by
  have hp : Run 170 0 [some (.ref (70)), some (.int (a)), some (.int (a))] [] (HC z γ π β η o od) = some (.inl (some (.int (2))), (HC z γ π β η o od)) := by rw [s170 H R, if_pos ⟨h, h⟩, if_pos rfl]
  simp only [↓reduceIte, e171_0, e171_1, e171_2, e171_3, e171_4, e171_7, e171_10, e171_11, e171_14, e171_17, e171_18, e171_21, e171_22, e171_23, e171_24, e171_27, e171_28, e171_31, e171_32, e171_33, e171_36, isO70, hp, ln2_0, pf9_5 kd_70, gf9_5 kd_70, up2_rr, aft_v, aft_n, Option.bind_some, rf_some, ck_i, ck_r, ck_n, nb0, nb1, nbi, Nat.reduceAdd, if_true, if_false, not_false_eq_true, not_true_eq_false]
theorem s161n (H : Ok α n) (R : Rm (β 71) α n) {c : Int32} (h : ¬ isShipC α 4 c) : Run 161 0 [some (.ref (70)), some (.int (c))] [] (HC z γ π β η o od) = some (.inl (some (.int (0))), (HC z γ π (up2 β 70 5 1) η o od)) := by
  simp only [↓reduceIte, e161_0, e161_1, e161_2, e161_3, e161_6, e161_9, e161_10, e161_13, e161_16, e161_17, e161_18, e161_19, e161_22, e161_23, e161_24, e161_27, isO70, s159n H R h, i1_0, pf9_5 kd_70, gf9_5 kd_70, up2_rr, aft_v, aft_n, Option.bind_some, rf_some, ck_i, ck_r, ck_n, nb0, nb1, nbi, Nat.reduceAdd, if_true, if_false, not_false_eq_true, not_true_eq_false]
theorem s161m (H : Ok α n) (R : Rm (β 71) α n) {i : Nat} (hi : i < n) (hm : ¬ canMoveC α n i) : Run 161 0 [some (.ref (70)), some (.int (J i))] [] (HC z γ π β η o od) = some (.inl (some (.int (0))), (HC z γ π (up2 β 70 5 2) η o od)) := by
  have e := s159 (z := z) (γ := γ) (π := π) (η := η) (o := o) (od := od) H R hi
  rw [if_neg hm] at e
  simp only [↓reduceIte, e161_0, e161_1, e161_2, e161_3, e161_6, e161_9, e161_10, e161_13, e161_16, e161_17, e161_18, e161_19, e161_22, e161_23, e161_24, e161_27, isO70, e, ln2_0, pf9_5 kd_70, gf9_5 kd_70, up2_rr, aft_v, aft_n, Option.bind_some, rf_some, ck_i, ck_r, ck_n, nb0, nb1, nbi, Nat.reduceAdd, if_true, if_false, not_false_eq_true, not_true_eq_false]
theorem s165n (H : Ok α n) (R : Rm (β 71) α n) {c r : Int32} (h : ¬ isShipC α 4 c) : Run 165 0 [some (.ref (70)), some (.int (c)), some (.int (r))] [] (HC z γ π β η o od) = some (.inl (some (.int (0))), (HC z γ π (up2 β 70 5 1) η o od)) := by
  simp only [↓reduceIte, e165_0, e165_1, e165_2, e165_3, e165_4, e165_7, e165_10, e165_11, e165_14, e165_17, e165_18, e165_19, e165_20, e165_23, e165_24, e165_25, e165_26, e165_29, isO70, s163n H R h, i1_0, pf9_5 kd_70, gf9_5 kd_70, up2_rr, aft_v, aft_n, Option.bind_some, rf_some, ck_i, ck_r, ck_n, nb0, nb1, nbi, Nat.reduceAdd, if_true, if_false, not_false_eq_true, not_true_eq_false]
theorem s165m (H : Ok α n) (R : Rm (β 71) α n) {i : Nat} (hi : i < n) {r : Int32} (hr : r = 0 ∨ r = 1) (hm : ¬ canSwingC α i r) : Run 165 0 [some (.ref (70)), some (.int (J i)), some (.int (r))] [] (HC z γ π β η o od) = some (.inl (some (.int (0))), (HC z γ π (up2 β 70 5 2) η o od)) := by
  have e := s163 (z := z) (γ := γ) (π := π) (η := η) (o := o) (od := od) H R hi hr
  rw [if_neg hm] at e
  simp only [↓reduceIte, e165_0, e165_1, e165_2, e165_3, e165_4, e165_7, e165_10, e165_11, e165_14, e165_17, e165_18, e165_19, e165_20, e165_23, e165_24, e165_25, e165_26, e165_29, isO70, e, ln2_0, pf9_5 kd_70, gf9_5 kd_70, up2_rr, aft_v, aft_n, Option.bind_some, rf_some, ck_i, ck_r, ck_n, nb0, nb1, nbi, Nat.reduceAdd, if_true, if_false, not_false_eq_true, not_true_eq_false]
theorem s176x (H : Ok α n) (R : Rm (β 71) α n) (D : Dj α n) {i j : Nat} (hi : i < n) (hj : j < n) (hij : i ≠ j) {r : Int32} (hr : r = 0 ∨ r = 1) {aim : Int32} (hm : ¬ (aimC aim ∧ canShootC α n i r j aim)) : Run 176 0 [some (.ref (70)), some (.int (J i)), some (.int (r)), some (.int (J j)), some (.int (aim))] [] (HC z γ π β η o od) = some (.inl (some (.int (0))), (HC z γ π (up2 β 70 5 (if aimC aim then 3 else 2)) η o od)) := by
  have e := s172 (z := z) (γ := γ) (π := π) (η := η) (o := o) (od := od) H R D hi hj hij hr aim
  by_cases q : aimC aim
  · rw [if_pos q, if_neg (fun w => hm ⟨q, w⟩)] at e
    rw [if_pos q]
    rcases hr with rfl | rfl <;> simp only [↓reduceIte, e176_0, e176_1, e176_2, e176_3, e176_4, e176_7, e176_8, e176_11, e176_12, e176_13, e176_15, e176_18, e176_21, e176_22, e176_25, e176_28, e176_29, e176_30, e176_31, e176_34, e176_35, e176_36, e176_37, e176_40, e176_41, e176_44, e176_45, e176_46, e176_48, e176_51, isO70, e, l30, i1_0, pf9_5 kd_70, gf9_5 kd_70, up2_rr, aft_v, aft_n, Option.bind_some, rf_some, ck_i, ck_r, ck_n, nb0, nb1, nbi, Nat.reduceAdd, if_true, if_false, not_false_eq_true, not_true_eq_false]
  · rw [if_neg q] at e
    rw [if_neg q]
    rcases hr with rfl | rfl <;> simp only [↓reduceIte, e176_0, e176_1, e176_2, e176_3, e176_4, e176_7, e176_8, e176_11, e176_12, e176_13, e176_15, e176_18, e176_21, e176_22, e176_25, e176_28, e176_29, e176_30, e176_31, e176_34, e176_35, e176_36, e176_37, e176_40, e176_41, e176_44, e176_45, e176_46, e176_48, e176_51, isO70, e, ln2_0, i1_0, pf9_5 kd_70, gf9_5 kd_70, up2_rr, aft_v, aft_n, Option.bind_some, rf_some, ck_i, ck_r, ck_n, nb0, nb1, nbi, Nat.reduceAdd, if_true, if_false, not_false_eq_true, not_true_eq_false]
theorem s176n (H : Ok α n) (R : Rm (β 71) α n) {a b r aim : Int32} (hr : r = 0 ∨ r = 1) (h : ¬ (isShipC α 4 a ∧ isShipC α 4 b)) : Run 176 0 [some (.ref (70)), some (.int (a)), some (.int (r)), some (.int (b)), some (.int (aim))] [] (HC z γ π β η o od) = some (.inl (some (.int (0))), (HC z γ π (up2 β 70 5 1) η o od)) := by
  rcases hr with rfl | rfl <;> simp only [↓reduceIte, e176_0, e176_1, e176_2, e176_3, e176_4, e176_7, e176_8, e176_11, e176_12, e176_13, e176_15, e176_18, e176_21, e176_22, e176_25, e176_28, e176_29, e176_30, e176_31, e176_34, e176_35, e176_36, e176_37, e176_40, e176_41, e176_44, e176_45, e176_46, e176_48, e176_51, isO70, s172p H R h, i1_0, pf9_5 kd_70, gf9_5 kd_70, up2_rr, aft_v, aft_n, Option.bind_some, rf_some, ck_i, ck_r, ck_n, nb0, nb1, nbi, Nat.reduceAdd, if_true, if_false, not_false_eq_true, not_true_eq_false]
theorem s176e (H : Ok α n) (R : Rm (β 71) α n) {a r aim : Int32} (hr : r = 0 ∨ r = 1) (h : isShipC α 4 a) : Run 176 0 [some (.ref (70)), some (.int (a)), some (.int (r)), some (.int (a)), some (.int (aim))] [] (HC z γ π β η o od) = some (.inl (some (.int (0))), (HC z γ π (up2 β 70 5 2) η o od)) := by
  rcases hr with rfl | rfl <;> simp only [↓reduceIte, e176_0, e176_1, e176_2, e176_3, e176_4, e176_7, e176_8, e176_11, e176_12, e176_13, e176_15, e176_18, e176_21, e176_22, e176_25, e176_28, e176_29, e176_30, e176_31, e176_34, e176_35, e176_36, e176_37, e176_40, e176_41, e176_44, e176_45, e176_46, e176_48, e176_51, isO70, s172q H R h, ln2_0, i1_0, pf9_5 kd_70, gf9_5 kd_70, up2_rr, aft_v, aft_n, Option.bind_some, rf_some, ck_i, ck_r, ck_n, nb0, nb1, nbi, Nat.reduceAdd, if_true, if_false, not_false_eq_true, not_true_eq_false]
theorem s179m (H : Ok α n) (R : Rm (β 71) α n) {i j : Nat} (hi : i < n) (hj : j < n) (hij : i ≠ j) (hm : ¬ canTieC α i j) : Run 179 0 [some (.ref (70)), some (.int (J i)), some (.int (J j))] [] (HC z γ π β η o od) = some (.inl (some (.int (0))), (HC z γ π (up2 β 70 5 3) η o od)) := by
  have h8 := H.n8
  have hp : Run 170 0 [some (.ref (70)), some (.int (J i)), some (.int (J j))] [] (HC z γ π β η o od) = some (.inl (some (.int (0))), (HC z γ π β η o od)) := by rw [s170 H R, if_pos ⟨isShip_J H.hn h8 hi, isShip_J H.hn h8 hj⟩, if_neg (Jne (by omega) (by omega) hij)]
  have e : Run 178 0 [some (.ref (70)), some (.int (J i)), some (.int (J j)), none] [] (HC z γ π (up2 β 70 5 0) η o od) = _ := s178 H (Rm_cd R 5 0) hi hj
  rw [bi_f hm] at e
  simp only [↓reduceIte, e179_0, e179_1, e179_2, e179_3, e179_4, e179_7, e179_10, e179_11, e179_12, e179_15, e179_18, e179_19, e179_22, e179_25, e179_26, e179_27, e179_28, e179_31, e179_34, e179_35, e179_38, e179_39, e179_42, e179_43, e179_46, e179_49, e179_50, e179_51, e179_52, e179_55, e179_56, e179_57, e179_59, e179_60, e179_63, e179_64, e179_65, e179_67, e179_68, e179_71, e179_72, e179_75, isO70, hp, e, l30, pf9_5 kd_70, gf9_5 kd_70, up2_rr, up2_ov, aft_v, aft_n, Option.bind_some, rf_some, ck_i, ck_r, ck_n, nb0, nb1, nbi, Nat.reduceAdd, if_true, if_false, not_false_eq_true, not_true_eq_false]
theorem s179n (H : Ok α n) (R : Rm (β 71) α n) {a b : Int32} (h : ¬ (isShipC α 4 a ∧ isShipC α 4 b)) : Run 179 0 [some (.ref (70)), some (.int (a)), some (.int (b))] [] (HC z γ π β η o od) = some (.inl (some (.int (0))), (HC z γ π (up2 β 70 5 1) η o od)) := by
  have hp : Run 170 0 [some (.ref (70)), some (.int (a)), some (.int (b))] [] (HC z γ π β η o od) = some (.inl (some (.int (1))), (HC z γ π β η o od)) := by rw [s170 H R, if_neg h]
  simp only [↓reduceIte, e179_0, e179_1, e179_2, e179_3, e179_4, e179_7, e179_10, e179_11, e179_12, e179_15, e179_18, e179_19, e179_22, e179_25, e179_26, e179_27, e179_28, e179_31, e179_34, e179_35, e179_38, e179_39, e179_42, e179_43, e179_46, e179_49, e179_50, e179_51, e179_52, e179_55, e179_56, e179_57, e179_59, e179_60, e179_63, e179_64, e179_65, e179_67, e179_68, e179_71, e179_72, e179_75, isO70, hp, i1_0, pf9_5 kd_70, gf9_5 kd_70, up2_rr, up2_ov, aft_v, aft_n, Option.bind_some, rf_some, ck_i, ck_r, ck_n, nb0, nb1, nbi, Nat.reduceAdd, if_true, if_false, not_false_eq_true, not_true_eq_false]
theorem s179e (H : Ok α n) (R : Rm (β 71) α n) {a : Int32} (h : isShipC α 4 a) : Run 179 0 [some (.ref (70)), some (.int (a)), some (.int (a))] [] (HC z γ π β η o od) = some (.inl (some (.int (0))), (HC z γ π (up2 β 70 5 2) η o od)) := by
  have hp : Run 170 0 [some (.ref (70)), some (.int (a)), some (.int (a))] [] (HC z γ π β η o od) = some (.inl (some (.int (2))), (HC z γ π β η o od)) := by rw [s170 H R, if_pos ⟨h, h⟩, if_pos rfl]
  simp only [↓reduceIte, e179_0, e179_1, e179_2, e179_3, e179_4, e179_7, e179_10, e179_11, e179_12, e179_15, e179_18, e179_19, e179_22, e179_25, e179_26, e179_27, e179_28, e179_31, e179_34, e179_35, e179_38, e179_39, e179_42, e179_43, e179_46, e179_49, e179_50, e179_51, e179_52, e179_55, e179_56, e179_57, e179_59, e179_60, e179_63, e179_64, e179_65, e179_67, e179_68, e179_71, e179_72, e179_75, isO70, hp, ln2_0, pf9_5 kd_70, gf9_5 kd_70, up2_rr, up2_ov, aft_v, aft_n, Option.bind_some, rf_some, ck_i, ck_r, ck_n, nb0, nb1, nbi, Nat.reduceAdd, if_true, if_false, not_false_eq_true, not_true_eq_false]
theorem s180n (H : Ok α n) (R : Rm (β 71) α n) {c : Int32} (h : ¬ isShipC α 4 c) : Run 180 0 [some (.ref (70)), some (.int (c)), none] [] (HC z γ π β η o od) = some (.inl (some (.int (0))), (HC z γ π (up2 β 70 5 1) η o od)) := by
  simp only [↓reduceIte, e180_0, e180_1, e180_2, e180_3, e180_6, e180_9, e180_10, e180_13, e180_14, e180_15, e180_17, e180_20, e180_21, e180_24, e180_25, e180_28, e180_29, e180_32, e180_33, e180_36, e180_39, e180_40, e180_41, e180_42, e180_45, e180_46, e180_47, e180_49, e180_52, e180_53, e180_54, e180_55, e180_58, e180_59, isO70, s124 H R, bi_f h, i1_0, pf9_5 kd_70, gf9_5 kd_70, up2_rr, aft_v, aft_n, Option.bind_some, rf_some, ck_i, ck_r, ck_n, nb0, nb1, nbi, Nat.reduceAdd, if_true, if_false, not_false_eq_true, not_true_eq_false]
theorem s180m (H : Ok α n) (R : Rm (β 71) α n) {i : Nat} (hi : i < n) (hm : α (7 + i) 12 = -1) : Run 180 0 [some (.ref (70)), some (.int (J i)), none] [] (HC z γ π β η o od) = some (.inl (some (.int (0))), (HC z γ π (up2 β 70 5 2) η o od)) := by
  simp only [↓reduceIte, e180_0, e180_1, e180_2, e180_3, e180_6, e180_9, e180_10, e180_13, e180_14, e180_15, e180_17, e180_20, e180_21, e180_24, e180_25, e180_28, e180_29, e180_32, e180_33, e180_36, e180_39, e180_40, e180_41, e180_42, e180_45, e180_46, e180_47, e180_49, e180_52, e180_53, e180_54, e180_55, e180_58, e180_59, isO70, s124 H R, bi_t (isShip_J H.hn H.n8 hi), s125_11 R H.n8 hi, hm, ln2_0, i1_0, pf9_5 kd_70, gf9_5 kd_70, up2_rr, aft_v, aft_n, Option.bind_some, rf_some, ck_i, ck_r, ck_n, nb0, nb1, nbi, Nat.reduceAdd, if_true, if_false, not_false_eq_true, not_true_eq_false]
theorem s182n (H : Ok α n) (R : Rm (β 71) α n) {c : Int32} (h : ¬ isShipC α 4 c) : Run 182 0 [some (.ref (70)), some (.int (c))] [] (HC z γ π β η o od) = some (.inl (some (.int (0))), (HC z γ π (up2 β 70 5 1) η o od)) := by
  simp only [↓reduceIte, e182_0, e182_1, e182_2, e182_3, e182_6, e182_9, e182_10, e182_13, e182_14, e182_15, e182_17, e182_20, e182_21, e182_24, e182_25, e182_26, e182_28, e182_31, e182_32, e182_35, e182_36, e182_39, e182_40, e182_43, e182_44, e182_47, e182_50, e182_51, e182_52, e182_53, e182_56, e182_57, e182_58, e182_61, isO70, s124 H R, bi_f h, i1_0, pf9_5 kd_70, gf9_5 kd_70, up2_rr, aft_v, aft_n, Option.bind_some, rf_some, ck_i, ck_r, ck_n, nb0, nb1, nbi, Nat.reduceAdd, if_true, if_false, not_false_eq_true, not_true_eq_false]
theorem s182m (H : Ok α n) (R : Rm (β 71) α n) {i : Nat} (hi : i < n) (hm : α (7 + i) 12 = -1 ∨ ¬ α (7 + i) 13 = 0) : Run 182 0 [some (.ref (70)), some (.int (J i))] [] (HC z γ π β η o od) = some (.inl (some (.int (0))), (HC z γ π (up2 β 70 5 2) η o od)) := by
  by_cases q : α (7 + i) 12 = -1
  · simp only [↓reduceIte, e182_0, e182_1, e182_2, e182_3, e182_6, e182_9, e182_10, e182_13, e182_14, e182_15, e182_17, e182_20, e182_21, e182_24, e182_25, e182_26, e182_28, e182_31, e182_32, e182_35, e182_36, e182_39, e182_40, e182_43, e182_44, e182_47, e182_50, e182_51, e182_52, e182_53, e182_56, e182_57, e182_58, e182_61, isO70, s124 H R, bi_t (isShip_J H.hn H.n8 hi), s125_11 R H.n8 hi, q, ln2_0, i1_0, pf9_5 kd_70, gf9_5 kd_70, up2_rr, aft_v, aft_n, Option.bind_some, rf_some, ck_i, ck_r, ck_n, nb0, nb1, nbi, Nat.reduceAdd, if_true, if_false, not_false_eq_true, not_true_eq_false]
  · have q1 : α (7 + i) 13 = 1 := (H.bo i hi).resolve_left (hm.resolve_left q)
    simp only [↓reduceIte, e182_0, e182_1, e182_2, e182_3, e182_6, e182_9, e182_10, e182_13, e182_14, e182_15, e182_17, e182_20, e182_21, e182_24, e182_25, e182_26, e182_28, e182_31, e182_32, e182_35, e182_36, e182_39, e182_40, e182_43, e182_44, e182_47, e182_50, e182_51, e182_52, e182_53, e182_56, e182_57, e182_58, e182_61, isO70, s124 H R, bi_t (isShip_J H.hn H.n8 hi), s125_11 R H.n8 hi, s125_14 R H.n8 hi, q, q1, ln2_0, i1_0, pf9_5 kd_70, gf9_5 kd_70, up2_rr, aft_v, aft_n, Option.bind_some, rf_some, ck_i, ck_r, ck_n, nb0, nb1, nbi, Nat.reduceAdd, if_true, if_false, not_false_eq_true, not_true_eq_false]
end S58
section S58o
variable {z : Zr} {α β γ : Mem} {π : Nat → Nat} {η : Int64} {o : Nat → Int64} {od : Nat → UInt64} {n l k : Nat}
theorem op_ahead (I : Inv α π β n l k) (c : Int32) : Res (fun hh => Run 222 0 [some (.ref (3)), some (.int (c)), some (.ref (75)), none] [] hh) (fun hh => Run 161 0 [some (.ref (70)), some (.int (c))] [] hh) z α π β η o od := by
  by_cases p : isShipC α 4 c
  · obtain ⟨i, hi, rfl⟩ := isShip_ex I.1.hn I.1.n8 p
    by_cases q : canMoveC α n i
    · have h8 := I.1.n8
      have Q := Inv_kept I
      have sq : Sq α (saveC α π n k) := fun j q w => save_sq I.se I.k4 h8 q w
      have q1 := (move_sq (i := i) sq h8 (by omega)).mpr q
      have ev : moveC (saveC α π n k) i (7 + i) 1 = nbC (saveC α π n k) (saveC α π n k (7 + i) 1) (hdA (saveC α π n k) (7 + i)) := by
        unfold moveC; rw [u14_1, u9_1, up2_rr]
      have e1 := s159 (z := z) (γ := moveC (saveC α π n k) i) (π := saveP π k) (η := η) (o := vp_updL o 0 (moveC (saveC α π n k) i (7 + i) 1).toInt64) (od := od) I.1 I.2.2.1 hi
      rw [if_pos q] at e1
      obtain ⟨β', g1, g2, g3⟩ := s160 (z := z) (γ := moveC (saveC α π n k) i) (π := saveP π k) (η := η) (o := vp_updL o 0 (moveC (saveC α π n k) i (7 + i) 1).toInt64) (od := od) Q.1 Q.2.2.1 hi
      have hm : Run 161 0 [some (.ref (70)), some (.int (J i))] [] (HC z (moveC (saveC α π n k) i) (saveP π k) β η (vp_updL o 0 (moveC (saveC α π n k) i (7 + i) 1).toInt64) od) = some (.inl (some (.int (moveC (saveC α π n k) i (7 + i) 1))), (HC z (moveC (saveC α π n k) i) (saveP π k) β' η (vp_updL o 0 (moveC (saveC α π n k) i (7 + i) 1).toInt64) od)) := by
        rw [ev] at e1 g1 ⊢
        simp only [↓reduceIte, e161_0, e161_1, e161_2, e161_3, e161_6, e161_9, e161_10, e161_13, e161_16, e161_17, e161_18, e161_19, e161_22, e161_23, e161_24, e161_27, isO70, e1, pf9_5 kd_70, gf9_5 kd_70, up2_rr, kept I.k2 I.k4, g1, aft_v, aft_n, Option.bind_some, rf_some, ck_i, ck_r, ck_n, nb0, nb1, nbi, Nat.reduceAdd, if_true, if_false, not_false_eq_true, not_true_eq_false]
      exact Res_m (n := n) (l := l) (k := saveK k + 1) (w222_ok _ (s92 I.1 I.se I.k1 I.k4 hi q)) hm (by rw [Md_705 g3, kept_5]) (Inv_up Q (Fs_move _ (by omega)) (Ok_move Q.1 hi q1) (Dj_move Q.1 Q.2.1 q1) g2 (Mq_md g3))
    · exact Res_thr (kk := 2) (by decide) (w222_x2 _ (s92m I.1 hi q)) (s161m I.1 I.2.2.1 hi q) I
  · exact Res_thr (kk := 1) (by decide) (w222_x1 _ (s92n p)) (s161n I.1 I.2.2.1 p) I
theorem op_turn (I : Inv α π β n l k) (c r : Int32) (hr : r = 0 ∨ r = 1) : Res (fun hh => Run 223 0 [some (.ref (3)), some (.int (c)), some (.int (r)), some (.ref (75)), none] [] hh) (fun hh => Run 165 0 [some (.ref (70)), some (.int (c)), some (.int (r))] [] hh) z α π β η o od := by
  by_cases p : isShipC α 4 c
  · obtain ⟨i, hi, rfl⟩ := isShip_ex I.1.hn I.1.n8 p
    by_cases q : canSwingC α i r
    · have h8 := I.1.n8
      have Q := Inv_kept I
      have sq : Sq α (saveC α π n k) := fun j q w => save_sq I.se I.k4 h8 q w
      have q1 := (swing_sq (i := i) sq (by omega) r).mpr q
      have ev : swingC (saveC α π n k) (7 + i) (J (hdN (hdA (saveC α π n k) (7 + i)) r)) (7 + i) 2 = J (hdN (hdA (saveC α π n k) (7 + i)) r) := by
        unfold swingC; rw [u14_2, u9_2, up2_rr]
      have e1 := s163 (z := z) (γ := swingC (saveC α π n k) (7 + i) (J (hdN (hdA (saveC α π n k) (7 + i)) r))) (π := saveP π k) (η := η) (o := vp_updL o 0 (J (hdN (hdA (saveC α π n k) (7 + i)) r)).toInt64) (od := od) I.1 I.2.2.1 hi hr
      rw [if_pos q] at e1
      obtain ⟨β', g1, g2, g3⟩ := s164 (z := z) (γ := swingC (saveC α π n k) (7 + i) (J (hdN (hdA (saveC α π n k) (7 + i)) r))) (π := saveP π k) (η := η) (o := vp_updL o 0 (J (hdN (hdA (saveC α π n k) (7 + i)) r)).toInt64) (od := od) Q.1 Q.2.2.1 hi hr
      have hc := s93 (z := z) (β := β) (η := η) (o := o) (od := od) I.1 I.se I.k1 I.k4 hi hr q
      rw [ev] at hc
      have hm : Run 165 0 [some (.ref (70)), some (.int (J i)), some (.int (r))] [] (HC z (swingC (saveC α π n k) (7 + i) (J (hdN (hdA (saveC α π n k) (7 + i)) r))) (saveP π k) β η (vp_updL o 0 (J (hdN (hdA (saveC α π n k) (7 + i)) r)).toInt64) od) = some (.inl (some (.int (J (hdN (hdA (saveC α π n k) (7 + i)) r)))), (HC z (swingC (saveC α π n k) (7 + i) (J (hdN (hdA (saveC α π n k) (7 + i)) r))) (saveP π k) β' η (vp_updL o 0 (J (hdN (hdA (saveC α π n k) (7 + i)) r)).toInt64) od)) := by
        simp only [↓reduceIte, e165_0, e165_1, e165_2, e165_3, e165_4, e165_7, e165_10, e165_11, e165_14, e165_17, e165_18, e165_19, e165_20, e165_23, e165_24, e165_25, e165_26, e165_29, isO70, e1, pf9_5 kd_70, gf9_5 kd_70, up2_rr, kept I.k2 I.k4, g1, aft_v, aft_n, Option.bind_some, rf_some, ck_i, ck_r, ck_n, nb0, nb1, nbi, Nat.reduceAdd, if_true, if_false, not_false_eq_true, not_true_eq_false]
      exact Res_m (n := n) (l := l) (k := saveK k + 1) (w223_ok _ _ hc) hm (by rw [Md_705 g3, kept_5]) (Inv_up Q (Fs_swing _ (by omega) _) (Ok_swing Q.1 hi q1) (Dj_swing Q.2.1 _ _) g2 (Mq_md g3))
    · exact Res_thr (kk := 2) (by decide) (w223_x2 _ _ (s93m I.1 hi hr q)) (s165m I.1 I.2.2.1 hi hr q) I
  · exact Res_thr (kk := 1) (by decide) (w223_x1 _ _ (s93n p)) (s165n I.1 I.2.2.1 p) I
theorem op_force (I : Inv α π β n l k) (a r b : Int32) (hr : r = 0 ∨ r = 1) : Res (fun hh => Run 224 0 [some (.ref (3)), some (.int (a)), some (.int (r)), some (.int (b)), some (.ref (75)), none] [] hh) (fun hh => Run 171 0 [some (.ref (70)), some (.int (a)), some (.int (r)), some (.int (b))] [] hh) z α π β η o od := by
  by_cases p : isShipC α 4 a ∧ isShipC α 4 b
  · by_cases e : a = b
    · subst e
      exact Res_thr (kk := 2) (by decide) (w224_x2 _ _ _ (s95e p.1)) (s171e I.1 I.2.2.1 p.1) I
    · obtain ⟨i, hi, rfl⟩ := isShip_ex I.1.hn I.1.n8 p.1
      obtain ⟨j, hj, rfl⟩ := isShip_ex I.1.hn I.1.n8 p.2
      have hij : i ≠ j := fun w => e (by rw [w])
      exact Res_q (w224_ok _ _ _ (s95 I.1 hi hj hij hr)) (s171 I.1 I.2.2.1 I.2.1 hi hj hij hr) I
  · exact Res_thr (kk := 1) (by decide) (w224_x1 _ _ _ (s95n p)) (s171n I.1 I.2.2.1 p) I
theorem op_fire (I : Inv α π β n l k) (a r b aim : Int32) (hr : r = 0 ∨ r = 1) : Res (fun hh => Run 225 0 [some (.ref (3)), some (.int (a)), some (.int (r)), some (.int (b)), some (.int (aim)), some (.ref (75)), none] [] hh) (fun hh => Run 176 0 [some (.ref (70)), some (.int (a)), some (.int (r)), some (.int (b)), some (.int (aim))] [] hh) z α π β η o od := by
  by_cases p : isShipC α 4 a ∧ isShipC α 4 b
  · by_cases e : a = b
    · subst e
      exact Res_thr (kk := 2) (by decide) (w225_x2 _ _ _ _ (s96e p.1)) (s176e I.1 I.2.2.1 hr p.1) I
    · obtain ⟨i, hi, rfl⟩ := isShip_ex I.1.hn I.1.n8 p.1
      obtain ⟨j, hj, rfl⟩ := isShip_ex I.1.hn I.1.n8 p.2
      have hij : i ≠ j := fun w => e (by rw [w])
      by_cases ha : aimC aim
      · by_cases q : canShootC α n i r j aim
        · have h8 := I.1.n8
          have Q := Inv_kept I
          have sq : Sq α (saveC α π n k) := fun j q w => save_sq I.se I.k4 h8 q w
          have hf0 : 0 < forceC (saveC α π n k) n i r j := by rw [force_sq sq h8 (by omega) (by omega)]; exact q.2.1
          have h3 : aim = 0 ∨ aim = 1 ∨ aim = 2 := by
            have a1 := ha.1; have a2 := ha.2
            rw [i32_lt, ti0] at a1; rw [i32_lt, ti2] at a2
            rw [i32_eq, i32_eq, i32_eq, ti0, ti1, ti2]; omega
          have e1 := s172 (z := z) (γ := (shotC (saveC α π n k) n i r j aim).1) (π := saveP π k) (η := η) (o := vp_updL o 0 (shotC (saveC α π n k) n i r j aim).2.toInt64) (od := od) I.1 I.2.2.1 I.2.1 hi hj hij hr aim
          rw [if_pos ha, if_pos q] at e1
          obtain ⟨β', g1, g2, g3⟩ := s175 (z := z) (γ := (shotC (saveC α π n k) n i r j aim).1) (π := saveP π k) (η := η) (o := vp_updL o 0 (shotC (saveC α π n k) n i r j aim).2.toInt64) (od := od) Q.1 Q.2.2.1 Q.2.1 hi hj hij hr h3 hf0
          have hS := Ok_shot Q.1 hi hj r aim (force_bd Q.1 hi hj r).1
          have hm : Run 176 0 [some (.ref (70)), some (.int (J i)), some (.int (r)), some (.int (J j)), some (.int (aim))] [] (HC z (shotC (saveC α π n k) n i r j aim).1 (saveP π k) β η (vp_updL o 0 (shotC (saveC α π n k) n i r j aim).2.toInt64) od) = some (.inl (some (.int ((shotC (saveC α π n k) n i r j aim).2))), (HC z (shotC (saveC α π n k) n i r j aim).1 (saveP π k) β' η (vp_updL o 0 (shotC (saveC α π n k) n i r j aim).2.toInt64) od)) := by
            rcases hr with rfl | rfl <;> simp only [↓reduceIte, e176_0, e176_1, e176_2, e176_3, e176_4, e176_7, e176_8, e176_11, e176_12, e176_13, e176_15, e176_18, e176_21, e176_22, e176_25, e176_28, e176_29, e176_30, e176_31, e176_34, e176_35, e176_36, e176_37, e176_40, e176_41, e176_44, e176_45, e176_46, e176_48, e176_51, isO70, e1, i1_0, pf9_5 kd_70, gf9_5 kd_70, up2_rr, kept I.k2 I.k4, g1, aft_v, aft_n, Option.bind_some, rf_some, ck_i, ck_r, ck_n, nb0, nb1, nbi, Nat.reduceAdd, if_true, if_false, not_false_eq_true, not_true_eq_false]
          exact Res_m (n := n) (l := l) (k := saveK k + 1) (w225_ok _ _ _ _ (s96 I.1 I.se I.k1 I.k4 hi hj hij hr ha q)) hm (by rw [Md_705 g3, kept_5]) (Inv_up Q hS.2.2 hS.1 (hS.2.1 Q.2.1) g2 (Mq_md g3))
        · have e2 := s176x (z := zb z) (γ := α) (π := π) (η := η) (o := o) (od := od) I.1 I.2.2.1 I.2.1 hi hj hij hr (aim := aim) (fun w => q w.2)
          rw [if_pos ha] at e2
          exact Res_thr (kk := 3) (by decide) (w225_x3 _ _ _ _ (s96m I.1 hi hj hij hr ha q)) e2 I
      · have e2 := s176x (z := zb z) (γ := α) (π := π) (η := η) (o := o) (od := od) I.1 I.2.2.1 I.2.1 hi hj hij hr (aim := aim) (fun w => ha w.1)
        rw [if_neg ha] at e2
        exact Res_thr (kk := 2) (by decide) (w225_x2 _ _ _ _ (s96a I.1 hi hj hij ha)) e2 I
  · exact Res_thr (kk := 1) (by decide) (w225_x1 _ _ _ _ (s96n p)) (s176n I.1 I.2.2.1 hr p) I
theorem op_grapple (I : Inv α π β n l k) (a b : Int32) : Res (fun hh => Run 226 0 [some (.ref (3)), some (.int (a)), some (.int (b)), some (.ref (75)), none] [] hh) (fun hh => Run 179 0 [some (.ref (70)), some (.int (a)), some (.int (b))] [] hh) z α π β η o od := by
  by_cases p : isShipC α 4 a ∧ isShipC α 4 b
  · by_cases e : a = b
    · subst e
      exact Res_thr (kk := 2) (by decide) (w226_x2 _ _ (s97e p.1)) (s179e I.1 I.2.2.1 p.1) I
    · obtain ⟨i, hi, rfl⟩ := isShip_ex I.1.hn I.1.n8 p.1
      obtain ⟨j, hj, rfl⟩ := isShip_ex I.1.hn I.1.n8 p.2
      have hij : i ≠ j := fun w => e (by rw [w])
      by_cases q : canTieC α i j
      · have h8 := I.1.n8
        have Q := Inv_kept I
        have sq : Sq α (saveC α π n k) := fun j q w => save_sq I.se I.k4 h8 q w
        have hT := Ok_tie Q.1 hi hj hij
        have R1 := Rm_up (β := keepB (up2 β 70 5 0) k) Q.2.2.1 (show i < 8 by omega) (k := 11) (by decide) (J j)
        have R2 : Rm (up2 (up2 (keepB (up2 β 70 5 0) k) 71 (6 + 15 * i + 11) (J j)) 71 (6 + 15 * j + 11) (J i) 71) (tieC (saveC α π n k) i j) n := Rm_up R1 (show j < 8 by omega) (k := 11) (by decide) (J i)
        have hp := s170 (z := z) (γ := tieC (saveC α π n k) i j) (π := saveP π k) (η := η) (o := vp_updL o 0 (cntF (fun q => ¬ tieC (saveC α π n k) i j (7 + q) 12 = -1) n 0 0).toInt64) (od := od) I.1 I.2.2.1 (J i) (J j)
        rw [if_pos p, if_neg e] at hp
        have e1 := s178 (z := z) (γ := tieC (saveC α π n k) i j) (π := saveP π k) (η := η) (o := vp_updL o 0 (cntF (fun q => ¬ tieC (saveC α π n k) i j (7 + q) 12 = -1) n 0 0).toInt64) (od := od) (β := up2 β 70 5 0) I.1 (Rm_cd I.2.2.1 5 0) hi hj
        rw [bi_t q] at e1
        have e2 := s177 (z := z) (γ := tieC (saveC α π n k) i j) (π := saveP π k) (η := η) (o := vp_updL o 0 (cntF (fun q => ¬ tieC (saveC α π n k) i j (7 + q) 12 = -1) n 0 0).toInt64) (od := od) hT R2
        refine Res_m (n := n) (l := l) (k := saveK k + 1) (v := cntF (fun q => ¬ tieC (saveC α π n k) i j (7 + q) 12 = -1) n 0 0) (w226_ok _ _ (s97 I.1 I.se I.k1 I.k4 hi hj hij q)) (β' := up2 (up2 (keepB (up2 β 70 5 0) k) 71 (6 + 15 * i + 11) (J j)) 71 (6 + 15 * j + 11) (J i)) ?_ (by rw [up2_70, up2_70, kept_5]) (Inv_up Q (Fs_t (Fs_s _ (by omega) _ _) (Fs_s _ (by omega) _ _)) hT (Dj_up (Dj_up Q.2.1 (by decide)) (by decide)) R2 (Mq_md (Md_up (Md_up (Md_r _) _ _) _ _)))
        simp only [↓reduceIte, e179_0, e179_1, e179_2, e179_3, e179_4, e179_7, e179_10, e179_11, e179_12, e179_15, e179_18, e179_19, e179_22, e179_25, e179_26, e179_27, e179_28, e179_31, e179_34, e179_35, e179_38, e179_39, e179_42, e179_43, e179_46, e179_49, e179_50, e179_51, e179_52, e179_55, e179_56, e179_57, e179_59, e179_60, e179_63, e179_64, e179_65, e179_67, e179_68, e179_71, e179_72, e179_75, isO70, hp, e1, i1_0, pf9_5 kd_70, gf9_5 kd_70, up2_rr, up2_ov, kept I.k2 I.k4, s126_11 (show i < 8 by omega), s126_11 (show j < 8 by omega), e2, aft_v, aft_n, Option.bind_some, rf_some, ck_i, ck_r, ck_n, nb0, nb1, nbi, Nat.reduceAdd, if_true, if_false, not_false_eq_true, not_true_eq_false]
      · exact Res_thr (kk := 3) (by decide) (w226_x3 _ _ (s97m I.1 hi hj hij q)) (s179m I.1 I.2.2.1 hi hj hij q) I
  · exact Res_thr (kk := 1) (by decide) (w226_x1 _ _ (s97n p)) (s179n I.1 I.2.2.1 p) I
theorem op_cut (I : Inv α π β n l k) (c : Int32) : Res (fun hh => Run 227 0 [some (.ref (3)), some (.int (c)), some (.ref (75)), none] [] hh) (fun hh => Run 180 0 [some (.ref (70)), some (.int (c)), none] [] hh) z α π β η o od := by
  by_cases p : isShipC α 4 c
  · obtain ⟨i, hi, rfl⟩ := isShip_ex I.1.hn I.1.n8 p
    by_cases q : α (7 + i) 12 = -1
    · exact Res_thr (kk := 2) (by decide) (w227_x2 _ (s98m I.1 hi q)) (s180m I.1 I.2.2.1 hi q) I
    · have h8 := I.1.n8
      have Q := Inv_kept I
      have sq : Sq α (saveC α π n k) := fun j q w => save_sq I.se I.k4 h8 q w
      obtain ⟨β', g1, g2, g3⟩ := s174 (z := z) (γ := looseC (saveC α π n k) (7 + i)) (π := saveP π k) (η := η) (o := vp_updL o 0 (α (7 + i) 12).toInt64) (od := od) Q.1 Q.2.2.1 hi
      have ep : saveC α π n k (7 + i) 12 = α (7 + i) 12 := by rw [sq _ (by omega) (by omega)]
      have e0 := s125_11 (z := z) (γ := looseC (saveC α π n k) (7 + i)) (π := saveP π k) (η := η) (o := vp_updL o 0 (α (7 + i) 12).toInt64) (od := od) Q.2.2.1 h8 hi
      rw [ep] at e0
      refine Res_m (n := n) (l := l) (k := saveK k + 1) (v := α (7 + i) 12) (w227_ok _ (s98 I.1 I.se I.k1 I.k4 hi q)) (β' := β') ?_ (by rw [Md_705 g3, kept_5]) (Inv_up Q (Fs_loose Q.1 hi) (Ok_loose Q.1 i) (Dj_loose Q.2.1 _) g2 (Mq_md g3))
      simp only [↓reduceIte, e180_0, e180_1, e180_2, e180_3, e180_6, e180_9, e180_10, e180_13, e180_14, e180_15, e180_17, e180_20, e180_21, e180_24, e180_25, e180_28, e180_29, e180_32, e180_33, e180_36, e180_39, e180_40, e180_41, e180_42, e180_45, e180_46, e180_47, e180_49, e180_52, e180_53, e180_54, e180_55, e180_58, e180_59, isO70, s124 I.1 I.2.2.1, bi_t p, s125_11 I.2.2.1 h8 hi, q, i1_0, pf9_5 kd_70, gf9_5 kd_70, up2_rr, kept I.k2 I.k4, e0, g1, aft_v, aft_n, Option.bind_some, rf_some, ck_i, ck_r, ck_n, nb0, nb1, nbi, Nat.reduceAdd, if_true, if_false, not_false_eq_true, not_true_eq_false]
  · exact Res_thr (kk := 1) (by decide) (w227_x1 _ (s98n p)) (s180n I.1 I.2.2.1 p) I
theorem op_board (I : Inv α π β n l k) (c : Int32) : Res (fun hh => Run 228 0 [some (.ref (3)), some (.int (c)), some (.ref (75)), none] [] hh) (fun hh => Run 182 0 [some (.ref (70)), some (.int (c))] [] hh) z α π β η o od := by
  by_cases p : isShipC α 4 c
  · obtain ⟨i, hi, rfl⟩ := isShip_ex I.1.hn I.1.n8 p
    by_cases q : α (7 + i) 12 = -1 ∨ ¬ α (7 + i) 13 = 0
    · exact Res_thr (kk := 2) (by decide) (w228_x2 _ (s99m I.1 hi q)) (s182m I.1 I.2.2.1 hi q) I
    · have h8 := I.1.n8
      have Q := Inv_kept I
      have sq : Sq α (saveC α π n k) := fun j q w => save_sq I.se I.k4 h8 q w
      have q1 : ¬ α (7 + i) 12 = -1 := fun w => q (Or.inl w)
      have q2 : α (7 + i) 13 = 0 := by by_cases w : α (7 + i) 13 = 0; exact w; exact absurd (Or.inr w) q
      obtain ⟨j, hj, hij, hp⟩ := (I.1.part i hi).resolve_left q1
      have ep : saveC α π n k (7 + i) 12 = J j := by rw [sq _ (by omega) (by omega)]; exact hp
      have hS := storm_end Q.1 hi hj hij
      obtain ⟨β', g1, g2, g3⟩ := s181 (z := z) (γ := stormC (saveC α π n k) i j) (π := saveP π k) (η := η) (o := vp_updL o 0 (if 0 < saveC α π n k (7 + j) 7 - (saveC α π n k (7 + i) 7 + 2) / 3 then (0 : Int32) else 1).toInt64) (od := od) Q.1 Q.2.2.1 hi hj hij ep
      refine Res_m (n := n) (l := l) (k := saveK k + 1) (v := if 0 < saveC α π n k (7 + j) 7 - (saveC α π n k (7 + i) 7 + 2) / 3 then 0 else 1) (w228_ok _ (s99 I.1 I.se I.k1 I.k4 hi hj hij hp q2)) (β' := β') ?_ (by rw [Md_705 g3, kept_5]) (Inv_up Q hS.2.2 hS.1 (hS.2.1 Q.2.1) g2 (Mq_md g3))
      simp only [↓reduceIte, e182_0, e182_1, e182_2, e182_3, e182_6, e182_9, e182_10, e182_13, e182_14, e182_15, e182_17, e182_20, e182_21, e182_24, e182_25, e182_26, e182_28, e182_31, e182_32, e182_35, e182_36, e182_39, e182_40, e182_43, e182_44, e182_47, e182_50, e182_51, e182_52, e182_53, e182_56, e182_57, e182_58, e182_61, isO70, s124 I.1 I.2.2.1, bi_t p, s125_11 I.2.2.1 h8 hi, s125_14 I.2.2.1 h8 hi, q1, q2, i1_0, ln0_1, pf9_5 kd_70, gf9_5 kd_70, up2_rr, kept I.k2 I.k4, g1, aft_v, aft_n, Option.bind_some, rf_some, ck_i, ck_r, ck_n, nb0, nb1, nbi, Nat.reduceAdd, if_true, if_false, not_false_eq_true, not_true_eq_false]
  · exact Res_thr (kk := 1) (by decide) (w228_x1 _ (s99n p)) (s182n I.1 I.2.2.1 p) I
theorem op_bestShot (I : Inv α π β n l k) (c : Int32) : Res (fun hh => Run 231 0 [some (.ref (3)), some (.int (c)), some (.ref (75)), none] [] hh) (fun hh => Run 192 0 [some (.ref (70)), some (.int (c)), none, none, none, none] [] hh) z α π β η o od := by
  by_cases p : isShipC α 4 c
  · obtain ⟨i, hi, rfl⟩ := isShip_ex I.1.hn I.1.n8 p
    exact Res_q (w231_ok _ (s102 I.1 hi)) (s192 I.1 I.2.2.1 I.2.1 hi) I
  · exact Res_thr (kk := 1) (by decide) (w231_x1 _ (s102n p)) (s192n I.1 I.2.2.1 p) I
theorem op_bestWind (I : Inv α π β n l k) (c : Int32) : Res (fun hh => Run 232 0 [some (.ref (3)), some (.int (c)), some (.ref (75)), none] [] hh) (fun hh => Run 193 0 [some (.ref (70)), some (.int (c)), none, none] [] hh) z α π β η o od := by
  by_cases p : isShipC α 4 c
  · obtain ⟨i, hi, rfl⟩ := isShip_ex I.1.hn I.1.n8 p
    exact Res_q (w232_ok _ (s103 I.1 hi)) (s193 I.1 I.2.2.1 hi) I
  · exact Res_thr (kk := 1) (by decide) (w232_x1 _ (s103n p)) (s193n I.1 I.2.2.1 p) I
end S58o
