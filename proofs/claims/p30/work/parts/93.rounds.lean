/-! the law's checks 'fights' (its end) and 'rounds' -/
theorem three_of {a : Nat} (h : a < 3) : a = 0 ∨ a = 1 ∨ a = 2 := by omega
/-- a ship that may drift -/
abbrev idleP (α : Mem) (i : Nat) : Prop := 0 < α (7 + i) 3 ∧ α (7 + i) 4 = 0 ∧ α (7 + i) 12 = -1
theorem dr1_cnt {n : Nat} {α0 : Mem} (h8 : n ≤ 8) (hs : ∀ q, q < n → 0 ≤ (α0 (7 + q) 4).toInt) : ∀ k i (α : Mem) a, i + k = n → a ≤ i → (α 4 3 = α0 4 3 ∧ ∀ q, q < n → α (7 + q) 3 = α0 (7 + q) 3 ∧ α (7 + q) 4 = α0 (7 + q) 4 ∧ α (7 + q) 12 = α0 (7 + q) 12) → ∃ m c, (dr1 n k i α (J a)).2 = J (a + m) ∧ cntF (fun q => idleP α0 q) k i (J a) = J (a + c) ∧ m ≤ c ∧ c ≤ k ∧ (α0 4 3 = 0 → m = 0) := by
  intro k
  induction k with
  | zero => intro i α a _ _ _; exact ⟨0, 0, rfl, rfl, by omega, by omega, fun _ => rfl⟩
  | succ k ih =>
    intro i α a hi ha h
    rw [dr1, cntF]
    obtain ⟨e3, e4, e12⟩ := h.2 i (by omega)
    by_cases q : driftsC α n i
    · have id : idleP α0 i := by
        refine ⟨by rw [← e3]; exact q.1, ?_, by rw [← e12]; exact q.2.2.1⟩
        have h1 := q.2.1
        have h2 := hs i (by omega)
        rw [e4, i32_lt, ti0] at h1
        rw [i32_eq, ti0]; omega
      rw [if_pos q, if_pos id, J_succ]
      have h' : driftC α i 4 3 = α0 4 3 ∧ ∀ q, q < n → driftC α i (7 + q) 3 = α0 (7 + q) 3 ∧ driftC α i (7 + q) 4 = α0 (7 + q) 4 ∧ driftC α i (7 + q) 12 = α0 (7 + q) 12 := by
        unfold driftC
        refine ⟨by rw [up2_4]; exact h.1, fun q hq => ?_⟩
        rw [up2_s, up2_s, up2_s, if_neg (fun w => absurd w.2 (by decide)), if_neg (fun w => absurd w.2 (by decide)), if_neg (fun w => absurd w.2 (by decide))]
        exact h.2 q hq
      obtain ⟨m, c, m1, m2, m3, m4, m5⟩ := ih (i + 1) (driftC α i) (a + 1) (by omega) (by omega) h'
      refine ⟨m + 1, c + 1, by rw [m1]; congr 1; omega, by rw [m2]; congr 1; omega, by omega, by omega, fun w => ?_⟩
      have := q.2.2.2.1
      rw [h.1, w] at this
      exact absurd this (by decide)
    · rw [if_neg q]
      obtain ⟨m, c, m1, m2, m3, m4, m5⟩ := ih (i + 1) α a (by omega) (by omega) h
      by_cases id : idleP α0 i
      · rw [if_pos id, J_succ]
        obtain ⟨m', c', m1', m2', m3', m4', m5'⟩ := ih (i + 1) α (a + 1) (by omega) (by omega) h
        have ec : c = c' := by
          have e1 := cnt_s (fun q => idleP α0 q) k (i + 1) (J a)
          rw [m2, J_succ, m2', J_succ, J_eq (by omega) (by omega)] at e1
          omega
        refine ⟨m, c' + 1, m1, by rw [m2']; congr 1; omega, by omega, by omega, m5⟩
      · rw [if_neg id]
        exact ⟨m, c, m1, m2, m3, by omega, m5⟩
theorem dr1_4 (n : Nat) : ∀ k i (α : Mem) v, (dr1 n k i α v).1 4 = α 4 := by
  intro k
  induction k with
  | zero => intro i α v; rfl
  | succ k ih =>
    intro i α v
    rw [dr1]
    split
    · rw [ih]; unfold driftC; rw [up2_ne _ (by omega)]
    · rw [ih]
theorem rs_o (α : Mem) (q : Nat) {j : Nat} (h : j ≠ 7 + q) : readyC (shortC α (7 + q)) (7 + q) j = α j := by
  unfold readyC shortC
  rw [up2_ne _ h, up2_ne _ h, up2_ne _ h, up2_ne _ h, up2_ne _ h]
theorem dr2_o : ∀ k i (α : Mem) {j : Nat}, (∀ q, i ≤ q → q < i + k → j ≠ 7 + q) → dr2 k i α j = α j := by
  intro k
  induction k with
  | zero => intro i α j _; rfl
  | succ k ih =>
    intro i α j h
    rw [dr2, ih _ _ (fun q q1 q2 => h q (by omega) (by omega)), rs_o _ _ (h i (Nat.le_refl i) (by omega))]
/-- what the round's beginning leaves of a ship -/
def RdP (F : Mem) (q : Nat) : Prop := F (7 + q) 9 = mxC (if 0 < F (7 + q) 4 then 1 else 0) (spdC F (7 + q) (hdA F (7 + q)) (wdN F)) ∧ F (7 + q) 13 = 0 ∧ ¬ 1 < F (7 + q) 10 ∧ ¬ 1 < F (7 + q) 11
theorem Rd_rs {α : Mem} {n q : Nat} (H : Ok α n) (hq : q < n) : RdP (readyC (shortC α (7 + q)) (7 + q)) q := by
  have w1 := H.wl q hq
  have w2 := H.wr q hq
  have x4 : ∀ j, j ≠ 7 + q → shortC α (7 + q) j = α j := fun j h => by unfold shortC; rw [up2_ne _ h, up2_ne _ h]
  have x : ∀ m, m ≠ 10 → m ≠ 11 → shortC α (7 + q) (7 + q) m = α (7 + q) m := fun m h1 h2 => by unfold shortC; rw [up2_rd _ _ _ _ _ h2, up2_rd _ _ _ _ _ h1]
  have y4 : readyC (shortC α (7 + q)) (7 + q) 4 = α 4 := rs_o _ _ (by omega)
  have y : ∀ m, m ≠ 9 → m ≠ 14 → m ≠ 13 → readyC (shortC α (7 + q)) (7 + q) (7 + q) m = shortC α (7 + q) (7 + q) m := fun m h1 h2 h3 => by unfold readyC; rw [up2_rd _ _ _ _ _ h3, up2_rd _ _ _ _ _ h2, up2_rd _ _ _ _ _ h1]
  refine ⟨?_, ?_, ?_, ?_⟩
  · have e : readyC (shortC α (7 + q)) (7 + q) (7 + q) 9 = mxC (if 0 < shortC α (7 + q) (7 + q) 4 then 1 else 0) (spdC (shortC α (7 + q)) (7 + q) (hdA (shortC α (7 + q)) (7 + q)) (wdN (shortC α (7 + q)))) := by
      unfold readyC; rw [up2_rd _ _ _ _ _ (by decide), up2_rd _ _ _ _ _ (by decide), up2_rr]
    rw [e]
    unfold spdC hdA wdN
    rw [y 4 (by decide) (by decide) (by decide), y 2 (by decide) (by decide) (by decide), y4, x4 4 (by omega)]
  · unfold readyC; rw [up2_rr]
  · rw [y 10 (by decide) (by decide) (by decide)]
    unfold shortC
    rw [up2_rd _ _ _ _ _ (by decide), up2_rr, wt_v w1, i32_lt, ti1]
    split
    · rw [sub_ti (by rw [ti1]; omega) (by rw [ti1]; omega), ti1]; omega
    · rw [ti0]; omega
  · rw [y 11 (by decide) (by decide) (by decide)]
    unfold shortC
    rw [up2_rr, wt_v w2, i32_lt, ti1]
    split
    · rw [sub_ti (by rw [ti1]; omega) (by rw [ti1]; omega), ti1]; omega
    · rw [ti0]; omega
theorem Rd_cg {F F' : Mem} {q : Nat} (h4 : F' 4 = F 4) (h7 : F' (7 + q) = F (7 + q)) (h : RdP F q) : RdP F' q := by
  unfold RdP spdC hdA wdN at *
  rw [h4, h7]
  exact h
theorem Rd_dr2 (n : Nat) : ∀ k i (α : Mem), i + k = n → Ok α n → ∀ q, i ≤ q → q < n → RdP (dr2 k i α) q := by
  intro k
  induction k with
  | zero => intro i α _ _ q h1 h2; omega
  | succ k ih =>
    intro i α hi H q h1 h2
    have h8 := H.n8
    rw [dr2]
    by_cases e : q = i
    · subst e
      refine Rd_cg ?_ ?_ (Rd_rs H h2)
      · exact dr2_o _ _ _ (fun j _ _ => by omega)
      · exact dr2_o _ _ _ (fun j _ _ => by omega)
    · exact ih _ _ (by omega) (Ok_ready (Ok_short H (by omega)) (by omega)) q (by omega) h2
theorem fin_4 (α : Mem) (n : Nat) : ∀ m, finC α n 4 m = if m = 4 then α 4 4 + 1 else α 4 m := by
  intro m
  unfold finC
  rw [dr2_o _ _ _ (fun q _ _ => by omega), up2_a, dr1_4]
theorem mx0_spd {v : Int32} (h : 0 ≤ v.toInt) : mxC 0 v = v := by rw [i32_eq, mx_ti, ti0]; split <;> omega
theorem mx1_spd {v : Int32} (h : 0 ≤ v.toInt) : mxC 1 v = if v = 0 then 1 else v := by
  unfold mxC
  by_cases q : v = 0
  · rw [if_pos q, q]; rfl
  · rw [if_neg q]
    by_cases w : 1 < v
    · rw [if_pos w]
    · rw [if_neg w, i32_eq, ti1]; rw [i32_eq, ti0] at q; rw [i32_lt, ti1] at w; omega
section S93
variable {z : Zr} {α β γ : Mem} {π : Nat → Nat} {η : Int64} {o : Nat → Int64} {od : Nat → UInt64} {n k : Nat}
theorem t148 (G : Gs α π n k) {i j : Nat} (hi : i < n) (hj : j < n) (x : Int32) : ∃ z' α' π' k', Run 148 0 [some (.ref (3)), some (.int (J i)), some (.int (J j)), some (.int (x)), none, none, none, none, none, none, none, none, none, none, none, none, none] [] (HC z α π β η o od) = some (.inl (some (.int 1)), HC z' α' π' β η o od) ∧ Zk z z' 3 ∧ Gs α' π' n k' := by
  have H := G.ok
  have h8 := H.n8
  have j0 : J 0 = (0 : Int32) := rfl
  have j1 : J 1 = (1 : Int32) := rfl
  have j2 : J 2 = (2 : Int32) := rfl
  by_cases hij : i = j
  · subst hij
    refine ⟨zb (zb (zb z)), α, π, k, ?_, Zk_b (Zk_b (Zk_b (Zk_r z))), G⟩
    rcases two_of (lowN_lt x (m := 2) (by decide)) with e | e
    · simp only [↓reduceIte, e148_0, e148_1, e148_2, e148_5, e148_8, e148_9, e148_12, e148_13, e148_15, e148_17, e148_20, e148_21, e148_24, e148_25, e148_27, e148_28, e148_29, e148_30, e148_31, e148_34, e148_36, e148_37, e148_38, e148_41, e148_42, e148_43, e148_45, e148_46, e148_48, e148_51, e148_54, e148_57, e148_58, e148_59, e148_60, e148_63, e148_66, e148_69, e148_70, e148_71, e148_73, e148_74, e148_77, e148_80, e148_83, e148_84, e148_87, e148_88, t120_2, t120_3, e, j0, i1_0, t133_e H hi, t134_e H hi, t132_e H hi, eq_self, aft_v, aft_n, Option.bind_some, rf_some, ck_i, ck_r, ck_n, nb0, nb1, nbi, Nat.reduceAdd, if_true, if_false, not_false_eq_true, not_true_eq_false]
    · simp only [↓reduceIte, e148_0, e148_1, e148_2, e148_5, e148_8, e148_9, e148_12, e148_13, e148_15, e148_17, e148_20, e148_21, e148_24, e148_25, e148_27, e148_28, e148_29, e148_30, e148_31, e148_34, e148_36, e148_37, e148_38, e148_41, e148_42, e148_43, e148_45, e148_46, e148_48, e148_51, e148_54, e148_57, e148_58, e148_59, e148_60, e148_63, e148_66, e148_69, e148_70, e148_71, e148_73, e148_74, e148_77, e148_80, e148_83, e148_84, e148_87, e148_88, t120_2, t120_3, e, j1, i1_0, t133_e H hi, t134_e H hi, t132_e H hi, eq_self, aft_v, aft_n, Option.bind_some, rf_some, ck_i, ck_r, ck_n, nb0, nb1, nbi, Nat.reduceAdd, if_true, if_false, not_false_eq_true, not_true_eq_false]
  · have hne : ¬ J i = J j := Jne (by omega) (by omega) hij
    rcases two_of (lowN_lt x (m := 2) (by decide)) with e | e <;> rcases three_of (lowN_lt (x >>> (1 &&& 31)) (m := 3) (by decide)) with e2 | e2 | e2
    · obtain ⟨z', α', π', k', r, Z, G'⟩ := t148_10 (z := z) (β := β) (η := η) (o := o) (od := od) G hi hj hij x
      refine ⟨z', α', π', k', ?_, Zk_le Z (by omega), G'⟩
      rw [← r]
      simp only [↓reduceIte, e148_0, e148_1, e148_2, e148_5, e148_8, e148_9, e148_12, e148_13, e148_15, e148_17, e148_20, e148_21, e148_24, e148_25, e148_27, e148_28, e148_29, e148_30, e148_31, e148_34, e148_36, e148_37, e148_38, e148_41, e148_42, e148_43, e148_45, e148_46, e148_48, e148_51, e148_54, e148_57, e148_58, e148_59, e148_60, e148_63, e148_66, e148_69, e148_70, e148_71, e148_73, e148_74, e148_77, e148_80, e148_83, e148_84, e148_87, e148_88, t120_2, t120_3, e, e2, j0, j1, j2, i1_0, hne, eq_self, aft_v, aft_n, Option.bind_some, rf_some, ck_i, ck_r, ck_n, nb0, nb1, nbi, Nat.reduceAdd, if_true, if_false, not_false_eq_true, not_true_eq_false]
    · obtain ⟨z', α', π', k', r, Z, G'⟩ := t148_11 (z := z) (β := β) (η := η) (o := o) (od := od) G hi hj hij x
      refine ⟨z', α', π', k', ?_, Zk_le Z (by omega), G'⟩
      rw [← r]
      simp only [↓reduceIte, e148_0, e148_1, e148_2, e148_5, e148_8, e148_9, e148_12, e148_13, e148_15, e148_17, e148_20, e148_21, e148_24, e148_25, e148_27, e148_28, e148_29, e148_30, e148_31, e148_34, e148_36, e148_37, e148_38, e148_41, e148_42, e148_43, e148_45, e148_46, e148_48, e148_51, e148_54, e148_57, e148_58, e148_59, e148_60, e148_63, e148_66, e148_69, e148_70, e148_71, e148_73, e148_74, e148_77, e148_80, e148_83, e148_84, e148_87, e148_88, t120_2, t120_3, e, e2, j0, j1, j2, i1_0, hne, eq_self, aft_v, aft_n, Option.bind_some, rf_some, ck_i, ck_r, ck_n, nb0, nb1, nbi, Nat.reduceAdd, if_true, if_false, not_false_eq_true, not_true_eq_false]
    · obtain ⟨z', α', π', k', r, Z, G'⟩ := t148_12 (z := z) (β := β) (η := η) (o := o) (od := od) G hi hj hij x
      refine ⟨z', α', π', k', ?_, Zk_le Z (by omega), G'⟩
      rw [← r]
      simp only [↓reduceIte, e148_0, e148_1, e148_2, e148_5, e148_8, e148_9, e148_12, e148_13, e148_15, e148_17, e148_20, e148_21, e148_24, e148_25, e148_27, e148_28, e148_29, e148_30, e148_31, e148_34, e148_36, e148_37, e148_38, e148_41, e148_42, e148_43, e148_45, e148_46, e148_48, e148_51, e148_54, e148_57, e148_58, e148_59, e148_60, e148_63, e148_66, e148_69, e148_70, e148_71, e148_73, e148_74, e148_77, e148_80, e148_83, e148_84, e148_87, e148_88, t120_2, t120_3, e, e2, j0, j1, j2, i1_0, hne, eq_self, aft_v, aft_n, Option.bind_some, rf_some, ck_i, ck_r, ck_n, nb0, nb1, nbi, Nat.reduceAdd, if_true, if_false, not_false_eq_true, not_true_eq_false]
    · obtain ⟨z', α', π', k', r, Z, G'⟩ := t148_00 (z := z) (β := β) (η := η) (o := o) (od := od) G hi hj hij x
      refine ⟨z', α', π', k', ?_, Zk_le Z (by omega), G'⟩
      rw [← r]
      simp only [↓reduceIte, e148_0, e148_1, e148_2, e148_5, e148_8, e148_9, e148_12, e148_13, e148_15, e148_17, e148_20, e148_21, e148_24, e148_25, e148_27, e148_28, e148_29, e148_30, e148_31, e148_34, e148_36, e148_37, e148_38, e148_41, e148_42, e148_43, e148_45, e148_46, e148_48, e148_51, e148_54, e148_57, e148_58, e148_59, e148_60, e148_63, e148_66, e148_69, e148_70, e148_71, e148_73, e148_74, e148_77, e148_80, e148_83, e148_84, e148_87, e148_88, t120_2, t120_3, e, e2, j0, j1, j2, i1_0, hne, eq_self, aft_v, aft_n, Option.bind_some, rf_some, ck_i, ck_r, ck_n, nb0, nb1, nbi, Nat.reduceAdd, if_true, if_false, not_false_eq_true, not_true_eq_false]
    · obtain ⟨z', α', π', k', r, Z, G'⟩ := t148_01 (z := z) (β := β) (η := η) (o := o) (od := od) G hi hj hij x
      refine ⟨z', α', π', k', ?_, Zk_le Z (by omega), G'⟩
      rw [← r]
      simp only [↓reduceIte, e148_0, e148_1, e148_2, e148_5, e148_8, e148_9, e148_12, e148_13, e148_15, e148_17, e148_20, e148_21, e148_24, e148_25, e148_27, e148_28, e148_29, e148_30, e148_31, e148_34, e148_36, e148_37, e148_38, e148_41, e148_42, e148_43, e148_45, e148_46, e148_48, e148_51, e148_54, e148_57, e148_58, e148_59, e148_60, e148_63, e148_66, e148_69, e148_70, e148_71, e148_73, e148_74, e148_77, e148_80, e148_83, e148_84, e148_87, e148_88, t120_2, t120_3, e, e2, j0, j1, j2, i1_0, hne, eq_self, aft_v, aft_n, Option.bind_some, rf_some, ck_i, ck_r, ck_n, nb0, nb1, nbi, Nat.reduceAdd, if_true, if_false, not_false_eq_true, not_true_eq_false]
    · obtain ⟨z', α', π', k', r, Z, G'⟩ := t148_02 (z := z) (β := β) (η := η) (o := o) (od := od) G hi hj hij x
      refine ⟨z', α', π', k', ?_, Zk_le Z (by omega), G'⟩
      rw [← r]
      simp only [↓reduceIte, e148_0, e148_1, e148_2, e148_5, e148_8, e148_9, e148_12, e148_13, e148_15, e148_17, e148_20, e148_21, e148_24, e148_25, e148_27, e148_28, e148_29, e148_30, e148_31, e148_34, e148_36, e148_37, e148_38, e148_41, e148_42, e148_43, e148_45, e148_46, e148_48, e148_51, e148_54, e148_57, e148_58, e148_59, e148_60, e148_63, e148_66, e148_69, e148_70, e148_71, e148_73, e148_74, e148_77, e148_80, e148_83, e148_84, e148_87, e148_88, t120_2, t120_3, e, e2, j0, j1, j2, i1_0, hne, eq_self, aft_v, aft_n, Option.bind_some, rf_some, ck_i, ck_r, ck_n, nb0, nb1, nbi, Nat.reduceAdd, if_true, if_false, not_false_eq_true, not_true_eq_false]
/-- the idle ships are counted -/
theorem t150_1 (H : Ok α n) (a : Int32) : ∀ k i (v : Int32), i + k = n → Run 150 17 [some (.ref (3)), some (.int (a)), some (.int (J n)), some (.int (v)), some (.int (J i)), none, none] [] (HC z α π β η o od) = Run 150 69 [some (.ref (3)), some (.int (a)), some (.int (J n)), some (.int (cntF (fun q => idleP α q) k i v)), some (.int (J n)), none, none] [] (HC z α π β η o od) := by
  have h8 := H.n8
  intro k
  induction k with
  | zero =>
    intro i v hi
    have : i = n := by omega
    subst this
    simp only [↓reduceIte, e150_17, e150_19, e150_20, e150_23, e150_24, e150_25, e150_27, e150_28, e150_31, e150_34, e150_35, e150_37, e150_38, e150_41, e150_44, e150_45, e150_47, e150_49, e150_52, e150_53, e150_56, e150_57, e150_60, e150_61, e150_62, e150_63, e150_66, Int32.le_refl, cntF, aft_v, aft_n, Option.bind_some, rf_some, ck_i, ck_r, ck_n, nb0, nb1, nbi, Nat.reduceAdd, if_true, if_false, not_false_eq_true, not_true_eq_false]
  | succ k ih =>
    intro i v hi
    have hi' : i < n := by omega
    have l0 : ¬ J n ≤ J i := by rw [J_le (by omega) (by omega)]; omega
    rw [cntF, ← ih (i + 1) _ (by omega), e150_17]
    by_cases h1 : 0 < α (7 + i) 3
    · have hn1 : ¬ α (7 + i) 3 ≤ 0 := by rw [le_not]; exact fun w => w h1
      by_cases h2 : α (7 + i) 4 = 0
      · by_cases h3 : α (7 + i) 12 = -1
        · rw [if_pos ⟨h1, h2, h3⟩]
          simp only [↓reduceIte, e150_19, e150_20, e150_23, e150_24, e150_25, e150_27, e150_28, e150_31, e150_34, e150_35, e150_37, e150_38, e150_41, e150_44, e150_45, e150_47, e150_49, e150_52, e150_53, e150_56, e150_57, e150_60, e150_61, e150_62, e150_63, e150_66, l0, t126_3 H hi', t126_4 H hi', t126_11 H hi', hn1, eq_true h2, eq_true h3, J_succ, Int32.add_zero, aft_v, aft_n, Option.bind_some, rf_some, ck_i, ck_r, ck_n, nb0, nb1, nbi, Nat.reduceAdd, if_true, if_false, not_false_eq_true, not_true_eq_false]
        · rw [if_neg (fun w => h3 w.2.2)]
          simp only [↓reduceIte, e150_19, e150_20, e150_23, e150_24, e150_25, e150_27, e150_28, e150_31, e150_34, e150_35, e150_37, e150_38, e150_41, e150_44, e150_45, e150_47, e150_49, e150_52, e150_53, e150_56, e150_57, e150_60, e150_61, e150_62, e150_63, e150_66, l0, t126_3 H hi', t126_4 H hi', t126_11 H hi', hn1, eq_true h2, eq_false h3, J_succ, Int32.add_zero, aft_v, aft_n, Option.bind_some, rf_some, ck_i, ck_r, ck_n, nb0, nb1, nbi, Nat.reduceAdd, if_true, if_false, not_false_eq_true, not_true_eq_false]
      · rw [if_neg (fun w => h2 w.2.1)]
        simp only [↓reduceIte, e150_19, e150_20, e150_23, e150_24, e150_25, e150_27, e150_28, e150_31, e150_34, e150_35, e150_37, e150_38, e150_41, e150_44, e150_45, e150_47, e150_49, e150_52, e150_53, e150_56, e150_57, e150_60, e150_61, e150_62, e150_63, e150_66, l0, t126_3 H hi', t126_4 H hi', hn1, eq_false h2, J_succ, Int32.add_zero, aft_v, aft_n, Option.bind_some, rf_some, ck_i, ck_r, ck_n, nb0, nb1, nbi, Nat.reduceAdd, if_true, if_false, not_false_eq_true, not_true_eq_false]
    · have hn1 : α (7 + i) 3 ≤ 0 := by rw [le_not]; exact h1
      rw [if_neg (fun w => h1 w.1)]
      simp only [↓reduceIte, e150_19, e150_20, e150_23, e150_24, e150_25, e150_27, e150_28, e150_31, e150_34, e150_35, e150_37, e150_38, e150_41, e150_44, e150_45, e150_47, e150_49, e150_52, e150_53, e150_56, e150_57, e150_60, e150_61, e150_62, e150_63, e150_66, l0, t126_3 H hi', hn1, J_succ, Int32.add_zero, aft_v, aft_n, Option.bind_some, rf_some, ck_i, ck_r, ck_n, nb0, nb1, nbi, Nat.reduceAdd, if_true, if_false, not_false_eq_true, not_true_eq_false]
/-- the ships after the round -/
theorem t150_2 (H : Ok α n) (a b c : Int32) (R : ∀ q, q < n → RdP α q) : ∀ k i (u : Option Value), i + k = n → ∃ u', Run 150 115 [some (.ref (3)), some (.int (a)), some (.int (J n)), some (.int (b)), some (.int (c)), some (.int (J i)), u] [] (HC z α π β η o od) = Run 150 206 [some (.ref (3)), some (.int (a)), some (.int (J n)), some (.int (b)), some (.int (c)), some (.int (J n)), u'] [] (HC z α π β η o od) := by
  have h8 := H.n8
  intro k
  induction k with
  | zero =>
    intro i u hi
    have : i = n := by omega
    subst this
    exact ⟨u, by simp only [↓reduceIte, e150_115, e150_117, e150_118, e150_121, e150_122, e150_124, e150_126, e150_129, Int32.le_refl, aft_v, aft_n, Option.bind_some, rf_some, ck_i, ck_r, ck_n, nb0, nb1, nbi, Nat.reduceAdd, if_true, if_false, not_false_eq_true, not_true_eq_false]⟩
  | succ k ih =>
    intro i u hi
    have hi' : i < n := by omega
    have l0 : ¬ J n ≤ J i := by rw [J_le (by omega) (by omega)]; omega
    obtain ⟨r1, r2, r3, r4⟩ := R i hi'
    have sb := spd_bd H hi' (hdA α (7 + i)) (wdN α)
    have r4' : α (7 + i) 11 ≤ 1 := by rw [le_not]; exact r4
    have stp : Run 150 115 [some (.ref (3)), some (.int (a)), some (.int (J n)), some (.int (b)), some (.int (c)), some (.int (J i)), u] [] (HC z α π β η o od) = Run 150 115 [some (.ref (3)), some (.int (a)), some (.int (J n)), some (.int (b)), some (.int (c)), some (.int (J (i + 1))), some (.int (spdC α (7 + i) (hdA α (7 + i)) (wdN α)))] [] (HC z α π β η o od) := by
      rw [e150_115]
      by_cases s0 : spdC α (7 + i) (hdA α (7 + i)) (wdN α) = 0
      · by_cases h2 : 0 < α (7 + i) 4
        · have hn2 : ¬ α (7 + i) 4 ≤ 0 := by rw [le_not]; exact fun w => w h2
          rw [if_pos h2, mx1_spd sb.1, if_pos s0] at r1
          simp only [↓reduceIte, e150_117, e150_118, e150_121, e150_122, e150_124, e150_126, e150_129, e150_131, e150_132, e150_134, e150_136, e150_139, e150_141, e150_144, e150_145, e150_147, e150_148, e150_151, e150_154, e150_155, e150_158, e150_160, e150_163, e150_164, e150_166, e150_168, e150_171, e150_174, e150_175, e150_177, e150_179, e150_182, e150_183, e150_186, e150_187, e150_189, e150_191, e150_194, e150_195, e150_198, e150_199, e150_200, e150_203, l0, t126_12 H hi', t126_8 H hi', t126_4 H hi', t126_14 H hi', t126_9 H hi', t126_10 H hi', r1, eq_true s0, hn2, eq_true r2, r3, r4', J_succ, eq_self, aft_v, aft_n, Option.bind_some, rf_some, ck_i, ck_r, ck_n, nb0, nb1, nbi, Nat.reduceAdd, if_true, if_false, not_false_eq_true, not_true_eq_false]
        · have hn2 : α (7 + i) 4 ≤ 0 := by rw [le_not]; exact h2
          rw [if_neg h2, mx0_spd sb.1] at r1
          simp only [↓reduceIte, e150_117, e150_118, e150_121, e150_122, e150_124, e150_126, e150_129, e150_131, e150_132, e150_134, e150_136, e150_139, e150_141, e150_144, e150_145, e150_147, e150_148, e150_151, e150_154, e150_155, e150_158, e150_160, e150_163, e150_164, e150_166, e150_168, e150_171, e150_174, e150_175, e150_177, e150_179, e150_182, e150_183, e150_186, e150_187, e150_189, e150_191, e150_194, e150_195, e150_198, e150_199, e150_200, e150_203, l0, t126_12 H hi', t126_8 H hi', t126_4 H hi', t126_14 H hi', t126_9 H hi', t126_10 H hi', r1, eq_true s0, hn2, eq_true r2, r3, r4', J_succ, eq_self, aft_v, aft_n, Option.bind_some, rf_some, ck_i, ck_r, ck_n, nb0, nb1, nbi, Nat.reduceAdd, if_true, if_false, not_false_eq_true, not_true_eq_false]
      · have r1' : α (7 + i) 9 = spdC α (7 + i) (hdA α (7 + i)) (wdN α) := by
          rw [r1]
          split
          · rw [mx1_spd sb.1, if_neg s0]
          · exact mx0_spd sb.1
        simp only [↓reduceIte, e150_117, e150_118, e150_121, e150_122, e150_124, e150_126, e150_129, e150_131, e150_132, e150_134, e150_136, e150_139, e150_141, e150_144, e150_145, e150_147, e150_148, e150_151, e150_154, e150_155, e150_158, e150_160, e150_163, e150_164, e150_166, e150_168, e150_171, e150_174, e150_175, e150_177, e150_179, e150_182, e150_183, e150_186, e150_187, e150_189, e150_191, e150_194, e150_195, e150_198, e150_199, e150_200, e150_203, l0, t126_12 H hi', t126_8 H hi', t126_14 H hi', t126_9 H hi', t126_10 H hi', r1', eq_false s0, eq_true r2, r3, r4', J_succ, eq_self, aft_v, aft_n, Option.bind_some, rf_some, ck_i, ck_r, ck_n, nb0, nb1, nbi, Nat.reduceAdd, if_true, if_false, not_false_eq_true, not_true_eq_false]
    rw [stp]
    exact ih (i + 1) _ (by omega)
theorem t150 (G : Gs α π n k) : ∃ z' α' π' k', Run 150 0 [some (.ref (3)), none, none, none, none, none, none] [] (HC z α π β η o od) = some (.inl (some (.int 1)), HC z' α' π' β η o od) ∧ Zk z z' 0 ∧ Gs α' π' n k' := by
  have H := G.ok
  have h8 := H.n8
  obtain ⟨αa, πa, ka, α1, r1, D1, f1, s1⟩ := t94 (z := z) (β := β) (η := η) (o := o) (od := od) G
  obtain ⟨αb, q, hq, r2, q0, sm, G2, -⟩ := t143u (z := z) (β := β) (η := η) (o := o) (od := od) G D1
  obtain ⟨αc, πc, kc, α2, r3, D3, f3, s3⟩ := t94 (z := z) (β := β) (η := η) (o := o) (od := od) G2
  have sm2 : Sm α2 α1 n := Sm_t (Sm_of h8 s3) (Sm_t sm (Sm_sym (Sm_of h8 s1)))
  rw [sm_dr1 n n 0 α1 α2 0 (by omega) sm2] at r3
  have S1 : Sg α1 n := Sg_sq s1 G.1
  obtain ⟨m, c, m1, m2, m3, m4, m5⟩ := dr1_cnt (n := n) (α0 := α) h8 (fun q hq => (H.sails q hq).1) n 0 α1 0 (by omega) (by omega) ⟨by rw [s1 4 (by decide) (by decide)], fun q hq => by rw [s1 (7 + q) (by omega) (by omega)]; exact ⟨rfl, rfl, rfl⟩⟩
  rw [Nat.zero_add] at m1 m2
  have m1 : (dr1 n n 0 α1 0).2 = J m := m1
  have m2 : cntF (fun q => idleP α q) n 0 0 = J c := m2
  rw [m1] at r1 r3
  have Ha := D1.g.ok
  have e4 : ∀ m, αa 4 m = if m = 4 then α 4 4 + 1 else α 4 m := fun m => by rw [f1, fin_4, s1 4 (by decide) (by decide)]
  have e43 : αa 4 3 = α 4 3 := e4 3
  have e44 : αa 4 4 = α 4 4 + 1 := e4 4
  have R : ∀ q, q < n → RdP αa q := fun q hq => by
    rw [f1]
    exact Rd_dr2 n n 0 _ (by omega) (Ok_round (Ok_dr1 n n 0 α1 0 (by omega) S1.1) _) q (Nat.zero_le _) hq
  have w1 : Run 150 0 [some (.ref (3)), none, none, none, none, none, none] [] (HC z α π β η o od) = Run 150 17 [some (.ref (3)), some (.int (α 4 4)), some (.int (J n)), some (.int (0)), some (.int (J 0)), none, none] [] (HC z α π β η o od) := by
    simp only [↓reduceIte, e150_0, e150_1, e150_2, e150_5, e150_6, e150_7, e150_8, e150_11, e150_12, e150_13, e150_14, e150_15, t125_4 H, t125_5 H, H.hn, show J 0 = (0 : Int32) from rfl, aft_v, aft_n, Option.bind_some, rf_some, ck_i, ck_r, ck_n, nb0, nb1, nbi, Nat.reduceAdd, if_true, if_false, not_false_eq_true, not_true_eq_false]
  have d1 : ¬ J m < 0 := Jnn (by omega)
  have d2 : ¬ J c < J m := by rw [J_lt (by omega) (by omega)]; omega
  have w2 : Run 150 69 [some (.ref (3)), some (.int (α 4 4)), some (.int (J n)), some (.int (J c)), some (.int (J n)), none, none] [] (HC z α π β η o od) = Run 150 115 [some (.ref (3)), some (.int (α 4 4)), some (.int (J n)), some (.int (J c)), some (.int (J m)), some (.int (J 0)), none] [] (HC z αa πa β η o od) := by
    by_cases w : α 4 3 = 0
    · have m0 := m5 w
      have d3 : ¬ 0 < J m := by rw [m0]; decide
      simp only [↓reduceIte, e150_69, e150_70, e150_73, e150_75, e150_77, e150_80, e150_82, e150_83, e150_86, e150_87, e150_88, e150_91, e150_94, e150_96, e150_99, e150_100, e150_101, e150_104, e150_105, e150_106, e150_107, e150_110, e150_111, e150_112, e150_113, isO3, r1, d1, d2, d3, t125_3 Ha, e43, eq_true w, t125_4 Ha, e44, show J 0 = (0 : Int32) from rfl, eq_self, aft_v, aft_n, Option.bind_some, rf_some, ck_i, ck_r, ck_n, nb0, nb1, nbi, Nat.reduceAdd, if_true, if_false, not_false_eq_true, not_true_eq_false]
    · simp only [↓reduceIte, e150_69, e150_70, e150_73, e150_75, e150_77, e150_80, e150_82, e150_83, e150_86, e150_87, e150_88, e150_91, e150_94, e150_96, e150_99, e150_100, e150_101, e150_104, e150_105, e150_106, e150_107, e150_110, e150_111, e150_112, e150_113, isO3, r1, d1, d2, t125_3 Ha, e43, eq_false w, t125_4 Ha, e44, show J 0 = (0 : Int32) from rfl, eq_self, aft_v, aft_n, Option.bind_some, rf_some, ck_i, ck_r, ck_n, nb0, nb1, nbi, Nat.reduceAdd, if_true, if_false, not_false_eq_true, not_true_eq_false]
  obtain ⟨u', w3⟩ := t150_2 (z := z) (π := πa) (β := β) (η := η) (o := o) (od := od) Ha (α 4 4) (J c) (J m) R n 0 none (by omega)
  have eb : αb 4 4 = α 4 4 := sm.1 4 (by decide)
  refine ⟨z, αc, πc, kc, ?_, Zk_r z, D3.g⟩
  rw [w1, t150_1 H _ n 0 0 (by omega), m2, w2, w3]
  simp only [↓reduceIte, e150_206, e150_207, e150_210, e150_213, e150_214, e150_215, e150_218, e150_219, e150_222, e150_223, e150_226, e150_228, e150_231, e150_232, e150_235, e150_236, r2, q0, t125_4 G2.ok, eb, isO3, r3, eq_self, aft_v, aft_n, Option.bind_some, rf_some, ck_i, ck_r, ck_n, nb0, nb1, nbi, Nat.reduceAdd, if_true, if_false, not_false_eq_true, not_true_eq_false]
end S93
