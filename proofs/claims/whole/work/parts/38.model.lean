/-! the model: cells, ways, distances -/
theorem J_shift (k : Nat) : 126 + J k = J (126 + k) := by
  show Int32.ofNat 126 + Int32.ofNat k = _
  rw [← Int32.ofNat_add]
theorem cell_J {α : Mem} {n : Nat} (H : Ok α n) {c : Int32} (h : isCellC α 4 c) : ∃ k, k < 144 ∧ c = J k := by
  have h1 := h.1; have h2 := h.2.2
  rw [i32_le, ti0] at h1; rw [i32_lt, ti144] at h2
  exact J_rng h1 h2
theorem Jm1 {i : Nat} (h : i < 2147483648) : ¬ J i = -1 := by rw [i32_eq, J_ti h, tim1]; omega
theorem shipOn_rng (α : Mem) (c : Int32) : ∀ k i, i + k ≤ 8 → shipOnF α c k i = -1 ∨ ∃ j, j < i + k ∧ shipOnF α c k i = J j := by
  intro k
  induction k with
  | zero => intro i _; exact Or.inl rfl
  | succ k ih =>
    intro i hi
    unfold shipOnF
    split
    · exact Or.inr ⟨i, by omega, rfl⟩
    · rcases ih (i + 1) (by omega) with h | ⟨j, hj, h⟩
      · exact Or.inl h
      · exact Or.inr ⟨j, by omega, h⟩
theorem shipOn_m2 {α : Mem} {n : Nat} (h8 : n ≤ 8) (c : Int32) : ¬ shipOnF α c n 0 = -2 := by
  rcases shipOn_rng α c n 0 (by omega) with h | ⟨j, hj, h⟩
  · rw [h]; decide
  · rw [h, i32_eq, J_ti (by omega)]; show ¬ (j : Int) = -2; omega
theorem thing_free {α : Mem} {n : Nat} (h8 : n ≤ 8) {c : Int32} (hc : isCellC α 4 c) : (thingC α n c = -1) = freeC α n c := by
  unfold thingC rockC freeC
  apply propext
  by_cases q : α 5 c.toNatClampNeg = 0
  · rw [if_neg (fun w => w.2 q)]
    exact ⟨fun h => ⟨hc, q, h⟩, fun h => h.2.2⟩
  · rw [if_pos ⟨hc, q⟩]
    exact ⟨fun h => absurd h (by decide), fun h => absurd h.2.1 q⟩
theorem far_alt (a b c : Int32) : (if a ≤ b then (if b ≤ c then c else b) else (if a ≤ c then c else a)) = mxC c (mxC a b) := by
  rw [i32_eq, mx_ti, mx_ti]
  simp only [i32_le]
  (repeat' split) <;> omega
section S38
variable {z : Zr} {α β γ : Mem} {π : Nat → Nat} {η : Int64} {o : Nat → Int64} {od : Nat → UInt64} {n k : Nat}
theorem s130 (H : Ok α n) (R : Rm (β 71) α n) {c : Int32} {e : Nat} (he : e < 6) : Run 130 0 [some (.ref (70)), some (.int (c)), some (.int (J e)), none, none] [] (HC z γ π β η o od) = some (.inl (some (.int (nbC α c e))), (HC z γ π β η o od)) := by
  have hz : ¬ α 4 0 = 0 := fun q => by have := H.cols; rw [q, ti0] at this; omega
  have hw := H.cols; have hr := H.rows
  have e0 := sub_ti (x := α 4 0) (y := 1) (by rw [ti1]; omega) (by rw [ti1]; omega)
  have e1 := sub_ti (x := α 4 1) (y := 1) (by rw [ti1]; omega) (by rw [ti1]; omega)
  have g1 : ∀ x : Int32, (¬ x < 0 ∧ ¬ α 4 1 - 1 < x) ↔ (0 ≤ x ∧ x < α 4 1) := fun x => by
    rw [i32_lt, i32_lt, i32_le, i32_lt, e1, ti0, ti1]; omega
  have g0 : ∀ x : Int32, (¬ x < 0 ∧ ¬ α 4 0 - 1 < x) ↔ (0 ≤ x ∧ x < α 4 0) := fun x => by
    rw [i32_lt, i32_lt, i32_le, i32_lt, e0, ti0, ti1]; omega
  have f1 : c / α 4 0 = rowC α c := rfl
  have f2 : c - c / α 4 0 * α 4 0 = colC α c := rfl
  simp only [f2, e130_0, e130_1, e130_2, e130_5, e130_6, e130_7, e130_8, e130_9, e130_12, e130_13, e130_14, e130_15, e130_16, e130_19, e130_20, e130_21, e130_22, e130_23, e130_26, e130_27, e130_29, e130_30, e130_31, e130_32, e130_35, e130_36, e130_37, e130_38, e130_39, e130_42, e130_45, e130_47, e130_48, e130_49, e130_52, e130_53, e130_54, e130_55, e130_56, e130_59, e130_62, e130_63, e130_66, e130_67, e130_68, e130_69, e130_70, e130_72, e130_73, e130_76, e130_77, gf9_0 kd_70, m71_0 R, m71_1 R, hz, s128 e he, s129 e he, s118, bi0, aft_v, aft_n, Option.bind_some, rf_some, ck_i, ck_r, ck_n, nb0, nb1, nbi, Nat.reduceAdd, if_true, if_false, not_false_eq_true, not_true_eq_false]
  rw [f1]
  unfold nbC
  by_cases h1 : ¬ rowC α c + rowStep e < 0 ∧ ¬ α 4 1 - 1 < rowC α c + rowStep e
  · have h1' := (g1 _).mp h1
    by_cases h2 : ¬ colC α c + colStep e < 0 ∧ ¬ α 4 0 - 1 < colC α c + colStep e
    · have h2' := (g0 _).mp h2
      rw [if_neg (fun q => q h1), if_neg (fun q => q h2), if_pos ⟨h1'.1, h1'.2, h2'.1, h2'.2⟩, Int32.mul_comm]
    · rw [if_neg (fun q => q h1), if_pos h2, if_neg (fun q => h2 ((g0 _).mpr q.2.2))]
  · rw [if_pos h1, if_neg (fun q => h1 ((g1 _).mpr ⟨q.1, q.2.1⟩))]
theorem s131_l (H : Ok α n) (R : Rm (β 71) α n) (c : Int32) : ∀ k i, i + k = n → Run 131 2 [some (.ref (70)), some (.int (c)), some (.int (J i))] [] (HC z γ π β η o od) = some (.inl (some (.int (shipOnF α c k i))), (HC z γ π β η o od)) := by
  have h8 := H.n8
  intro k
  induction k with
  | zero =>
    intro i hi
    simp only [↓reduceIte, e131_0, e131_1, e131_2, e131_3, e131_4, e131_7, e131_8, e131_9, e131_12, e131_13, e131_14, e131_17, e131_20, e131_21, e131_22, e131_23, e131_26, e131_27, e131_30, e131_31, e131_32, e131_35, e131_38, e131_39, gf9_0 kd_70, m71_5 R, H.hn, J_le (show n < 2147483648 by omega) (show i < 2147483648 by omega), show n ≤ i by omega, shipOnF, aft_v, aft_n, Option.bind_some, rf_some, ck_i, ck_r, ck_n, nb0, nb1, nbi, Nat.reduceAdd, if_true, if_false, not_false_eq_true, not_true_eq_false]
  | succ k ih =>
    intro i hi
    rw [e131_2]
    simp only [↓reduceIte, e131_0, e131_1, e131_3, e131_4, e131_7, e131_8, e131_9, e131_12, e131_13, e131_14, e131_17, e131_20, e131_21, e131_22, e131_23, e131_26, e131_27, e131_30, e131_31, e131_32, e131_35, e131_38, e131_39, gf9_0 kd_70, isO70, m71_5 R, H.hn, J_le (show n < 2147483648 by omega) (show i < 2147483648 by omega), show ¬ n ≤ i by omega, s127 R h8 (show i < n by omega), s125_1 R h8 (show i < n by omega), bi0, J_succ, ih (i + 1) (by omega), shipOnF, aft_v, aft_n, Option.bind_some, rf_some, ck_i, ck_r, ck_n, nb0, nb1, nbi, Nat.reduceAdd, if_true, if_false, not_false_eq_true, not_true_eq_false]
    by_cases h1 : 0 < α (7 + i) 3 <;> by_cases h2 : α (7 + i) 1 = c <;> simp only [h1, h2, and_true, and_false, true_and, false_and, aft_v, aft_n, Option.bind_some, rf_some, ck_i, ck_r, ck_n, nb0, nb1, nbi, Nat.reduceAdd, if_true, if_false, not_false_eq_true, not_true_eq_false]
theorem s131 (H : Ok α n) (R : Rm (β 71) α n) (c : Int32) : Run 131 0 [some (.ref (70)), some (.int (c)), none] [] (HC z γ π β η o od) = some (.inl (some (.int (shipOnF α c n 0))), (HC z γ π β η o od)) := by
  rw [← s131_l H R c n 0 (by omega)]
  simp only [e131_0, e131_1, J0, aft_v, aft_n, Option.bind_some, rf_some, ck_i, ck_r, ck_n, nb0, nb1, nbi, Nat.reduceAdd, if_true, if_false, not_false_eq_true, not_true_eq_false]
theorem m71_rock (R : Rm (β 71) α n) {c : Int32} (hc : isCellC α 4 c) (H : Ok α n) : gaI (HC z γ π β η o od) 71 (126 + c) = some (α 5 c.toNatClampNeg) := by
  obtain ⟨k, hk, e⟩ := cell_J H hc
  subst e
  rw [J_shift, gaI41 kd_71 (in71h (by omega)), J_tn (by omega), J_tn (by omega), R.2.1 k hk]
theorem s132 (H : Ok α n) (R : Rm (β 71) α n) {c : Int32} (hc : isCellC α 4 c) : Run 132 0 [some (.ref (70)), some (.int (c))] [] (HC z γ π β η o od) = some (.inl (some (.int (thingC α n c))), (HC z γ π β η o od)) := by
  have hk : c.toNatClampNeg < 144 := by
    obtain ⟨k, hk, e⟩ := cell_J H hc
    subst e
    rw [J_tn (by omega)]; exact hk
  unfold thingC
  rcases H.rk _ hk with q | q
  · simp only [e132_0, e132_1, e132_4, e132_6, e132_7, e132_8, e132_9, e132_10, e132_13, e132_15, e132_18, e132_19, e132_20, e132_23, gf9_0 kd_70, isO70, m71_rock R hc H, s131 H R, q, ln0_1, ln0_2, ln0_3, ln0_4, ln0_5, ln1_0, ln1_2, ln1_3, ln1_4, ln1_5, ln2_0, ln2_1, ln2_3, ln2_4, ln2_5, ln3_0, ln3_1, ln3_2, ln3_4, ln3_5, ln4_0, ln4_1, ln4_2, ln4_3, ln4_5, ln5_0, ln5_1, ln5_2, ln5_3, ln5_4, aft_v, aft_n, Option.bind_some, rf_some, ck_i, ck_r, ck_n, nb0, nb1, nbi, Nat.reduceAdd, if_true, if_false, not_false_eq_true, not_true_eq_false]
    rw [if_neg (fun w : rockC α c => w.2 q)]
  · simp only [e132_0, e132_1, e132_4, e132_6, e132_7, e132_8, e132_9, e132_10, e132_13, e132_15, e132_18, e132_19, e132_20, e132_23, gf9_0 kd_70, isO70, m71_rock R hc H, s131 H R, q, ln0_1, ln0_2, ln0_3, ln0_4, ln0_5, ln1_0, ln1_2, ln1_3, ln1_4, ln1_5, ln2_0, ln2_1, ln2_3, ln2_4, ln2_5, ln3_0, ln3_1, ln3_2, ln3_4, ln3_5, ln4_0, ln4_1, ln4_2, ln4_3, ln4_5, ln5_0, ln5_1, ln5_2, ln5_3, ln5_4, aft_v, aft_n, Option.bind_some, rf_some, ck_i, ck_r, ck_n, nb0, nb1, nbi, Nat.reduceAdd, if_true, if_false, not_false_eq_true, not_true_eq_false]
    rw [if_pos (show rockC α c from ⟨hc, by rw [q]; decide⟩)]
theorem s133 (H : Ok α n) (R : Rm (β 71) α n) {c : Int32} (hc : c = -1 ∨ isCellC α 4 c) : Run 133 0 [some (.ref (70)), some (.int (c))] [] (HC z γ π β η o od) = some (.inl (some (.int (bi (freeC α n c)))), (HC z γ π β η o od)) := by
  rcases hc with rfl | hc
  · rw [bi_f (fun q : freeC α n (-1) => absurd q.1.1 (by decide))]
    simp only [e133_0, e133_1, e133_2, e133_5, e133_6, e133_7, e133_10, e133_11, e133_14, e133_15, e133_18, e133_19, aft_v, aft_n, Option.bind_some, rf_some, ck_i, ck_r, ck_n, nb0, nb1, nbi, Nat.reduceAdd, if_true, if_false, not_false_eq_true, not_true_eq_false]
  · have hm : ¬ c = -1 := fun q => by rw [q] at hc; exact absurd hc.1 (by decide)
    simp only [e133_0, e133_1, e133_2, e133_5, e133_6, e133_7, e133_10, e133_11, e133_14, e133_15, e133_18, e133_19, isO70, hm, s132 H R hc, thing_free H.n8 hc, aft_v, aft_n, Option.bind_some, rf_some, ck_i, ck_r, ck_n, nb0, nb1, nbi, Nat.reduceAdd, if_true, if_false, not_false_eq_true, not_true_eq_false]
    by_cases q : freeC α n c
    · rw [if_pos q, bi_t q]
    · rw [if_neg q, bi_f q]
theorem s134 (H : Ok α n) (R : Rm (β 71) α n) (f t : Int32) : Run 134 0 [some (.ref (70)), some (.int (f)), some (.int (t))] [] (HC z γ π β η o od) = some (.inl (some (.int (rowC α t - rowC α f))), (HC z γ π β η o od)) := by
  have hz : ¬ α 4 0 = 0 := fun q => by have := H.cols; rw [q, ti0] at this; omega
  simp only [e134_0, e134_1, e134_2, e134_5, e134_6, e134_7, e134_8, e134_9, e134_10, e134_13, e134_14, e134_15, e134_16, e134_17, gf9_0 kd_70, m71_0 R, hz, aft_v, aft_n, Option.bind_some, rf_some, ck_i, ck_r, ck_n, nb0, nb1, nbi, Nat.reduceAdd, if_true, if_false, not_false_eq_true, not_true_eq_false]
  rfl
theorem s135 (H : Ok α n) (R : Rm (β 71) α n) (f t : Int32) : Run 135 0 [some (.ref (70)), some (.int (f)), some (.int (t))] [] (HC z γ π β η o od) = some (.inl (some (.int (colC α t - colC α f))), (HC z γ π β η o od)) := by
  have hz : ¬ α 4 0 = 0 := fun q => by have := H.cols; rw [q, ti0] at this; omega
  simp only [e135_0, e135_1, e135_2, e135_5, e135_6, e135_7, e135_8, e135_9, e135_10, e135_13, e135_14, e135_15, e135_16, e135_17, gf9_0 kd_70, m71_0 R, hz, aft_v, aft_n, Option.bind_some, rf_some, ck_i, ck_r, ck_n, nb0, nb1, nbi, Nat.reduceAdd, if_true, if_false, not_false_eq_true, not_true_eq_false]
  rfl
theorem s136 (H : Ok α n) (R : Rm (β 71) α n) (f t : Int32) : Run 136 0 [some (.ref (70)), some (.int (f)), some (.int (t)), none, none, none] [] (HC z γ π β η o od) = some (.inl (some (.int (frC α f t))), (HC z γ π β η o od)) := by
  unfold frC farC
  rw [← far_alt]
  simp only [e136_0, e136_1, e136_2, e136_3, e136_6, e136_9, e136_10, e136_11, e136_12, e136_13, e136_16, e136_19, e136_21, e136_22, e136_23, e136_24, e136_27, e136_28, e136_29, e136_30, e136_33, e136_34, e136_37, e136_39, e136_40, e136_42, e136_45, e136_46, e136_48, e136_51, e136_52, e136_55, e136_57, e136_60, e136_62, e136_64, e136_67, e136_69, e136_72, e136_74, isO70, s134 H R, s135 H R, s119, aft_v, aft_n, Option.bind_some, rf_some, ck_i, ck_r, ck_n, nb0, nb1, nbi, Nat.reduceAdd, if_true, if_false, not_false_eq_true, not_true_eq_false]
  by_cases q1 : absC (rowC α t - rowC α f) ≤ absC (colC α t - colC α f) <;> by_cases q2 : absC (colC α t - colC α f) ≤ absC (rowC α t - rowC α f + (colC α t - colC α f)) <;> by_cases q3 : absC (rowC α t - rowC α f) ≤ absC (rowC α t - rowC α f + (colC α t - colC α f)) <;> simp only [q1, q2, q3, aft_v, aft_n, Option.bind_some, rf_some, ck_i, ck_r, ck_n, nb0, nb1, nbi, Nat.reduceAdd, if_true, if_false, not_false_eq_true, not_true_eq_false]
end S38
