/-! begin, setRock, setWind -/
theorem mh84 : mHh 84 = [] := rfl
theorem Ok_new {α : Mem} {c r : Int32} (h1 : ¬ c < 4 ∧ ¬ 12 < c) (h2 : ¬ r < 4 ∧ ¬ 12 < r) : Ok (newC α 4 c r) 0 := by
  have t3 : (2 : Int32).toInt = 2 := rfl
  have g := new_4 α c r
  have g5 := new_5 α c r
  have e0 : newC α 4 c r 4 0 = c := by rw [g]; simp only [up2_a]; rfl
  have e1 : newC α 4 c r 4 1 = r := by rw [g]; simp only [up2_a]; rfl
  have e2 : newC α 4 c r 4 2 = 0 := by rw [g]; simp only [up2_a]; rfl
  have e3 : newC α 4 c r 4 3 = 2 := by rw [g]; simp only [up2_a]; rfl
  have e5 : newC α 4 c r 4 5 = 0 := by rw [g]; simp only [up2_a]; rfl
  have a1 := h1.1; have a2 := h1.2; have a3 := h2.1; have a4 := h2.2
  rw [i32_lt, ti4] at a1 a3
  rw [i32_lt, ti12] at a2 a4
  unfold Ok
  rw [e0, e1, e2, e3, e5]
  refine ⟨⟨by omega, by omega⟩, ⟨by omega, by omega⟩, ⟨0, by decide, rfl⟩, ⟨by decide, by decide⟩, by decide, rfl, fun q hq => Or.inl (g5 q hq), ?_⟩
  refine ⟨?_, ?_, ?_, ?_, ?_, ?_, ?_, ?_, ?_, ?_, ?_, ?_, ?_, ?_, ?_⟩ <;> exact fun i hi => absurd hi (Nat.not_lt_zero i)
theorem Dj_0 (α : Mem) : Dj α 0 := fun i _ hi => absurd hi (Nat.not_lt_zero i)
theorem Fs_new (α : Mem) (c r : Int32) : Fs α (newC α 4 c r) := by
  unfold newC fillC
  exact Fs_t (Fs_t (Fs_t (Fs_t (Fs_t (Fs_t (Fs_up α (by decide) 0 c) (Fs_up _ (by decide) 1 r)) (Fs_up _ (by decide) 2 0)) (Fs_up _ (by decide) 3 2)) (Fs_up _ (by decide) 4 1)) (Fs_up _ (by decide) 5 0)) (Fs_upA _ (by decide) _)
theorem Dj_up {α : Mem} {n a k : Nat} {v : Int32} (D : Dj α n) (h : k ≠ 1 ∧ k ≠ 3) : Dj (up2 α a k v) n := by
  have e : ∀ i m, (m = 1 ∨ m = 3) → up2 α a k v (7 + i) m = α (7 + i) m := fun i m hm => by
    by_cases q : 7 + i = a
    · rw [q, up2_a, if_neg (by omega)]
    · rw [up2_ne _ q]
  intro i j hi hj hij h1 h2
  rw [e i 3 (Or.inr rfl)] at h1
  rw [e j 3 (Or.inr rfl)] at h2
  rw [e i 1 (Or.inl rfl), e j 1 (Or.inl rfl)]
  exact D i j hi hj hij h1 h2
theorem Dj_4 {α : Mem} {n a k : Nat} {v : Int32} (D : Dj α n) (h : a < 7) : Dj (up2 α a k v) n := by
  intro i j hi hj hij h1 h2
  rw [up2_ne _ (by omega)] at h1 h2 ⊢
  rw [up2_ne _ (by omega)]
  exact D i j hi hj hij h1 h2
theorem Ok_rock {α : Mem} {n : Nat} (H : Ok α n) (c : Nat) {v : Int32} (hv : v = 0 ∨ v = 1) : Ok (up2 α 5 c v) n := by
  have e4 : ∀ m, up2 α 5 c v 4 m = α 4 m := fun m => by rw [up2_ne _ (by decide)]
  have es : ∀ i m, up2 α 5 c v (7 + i) m = α (7 + i) m := fun i m => by rw [up2_ne _ (by omega)]
  unfold Ok
  simp only [e4, es]
  refine ⟨H.cols, H.rows, H.wd, H.ws, H.n8, H.hn, fun q hq => ?_, H.2.2.2.2.2.2.2⟩
  rw [up2_a]
  split
  · exact hv
  · exact H.rk q hq
theorem cell_sq {α α1 : Mem} (h : ∀ j, 4 ≤ j → j < 15 → α1 j = α j) (c : Int32) : isCellC α1 4 c = isCellC α 4 c := by unfold isCellC; rw [h 4 (by decide) (by decide)]
section S55
variable {z : Zr} {α β γ : Mem} {π : Nat → Nat} {η : Int64} {o : Nat → Int64} {od : Nat → UInt64} {n l k : Nat}
theorem s83 (H : Ok α n) (hp : seas π) (hk : α 15 1 = J k) (h4 : k ≤ 4) {c r : Int32} (h1 : ¬ c < 4 ∧ ¬ 12 < c) (h2 : ¬ r < 4 ∧ ¬ 12 < r) : Run 83 0 [some (.ref (3)), some (.int (c)), some (.int (r)), none] [] (HC z α π β η o od) = some (.inl (some (.int (α 4 5))), (HC z (newC (saveC α π n k) 4 c r) (saveP π k) β η o od)) := by
  have hs := s30 (z := z) (β := β) (η := η) (o := o) (od := od) H hp hk h4
  have hm : Run 41 0 [some (.ref (4)), some (.int (c)), some (.int (r))] [] (HC z (saveC α π n k) (saveP π k) β η o od) = _ := s41 kd4 kd5 (by decide) c r
  simp only [↓reduceIte, e83_0, e83_1, e83_2, e83_5, e83_6, e83_8, e83_11, e83_12, e83_13, e83_16, e83_17, e83_19, e83_22, e83_32, e83_33, e83_36, e83_39, e83_40, e83_41, e83_44, e83_45, e83_48, e83_51, e83_52, e83_55, e83_56, e83_57, e83_60, e83_61, gf8_0 kd3, gf8_1 kd3, gf6_5 kd4, isO4, isO15, h1.1, h1.2, h2.1, h2.2, le_not, hs, hm, aft_v, aft_n, Option.bind_some, rf_some, ck_i, ck_r, ck_n, nb0, nb1, nbi, Nat.reduceAdd, if_true, if_false, not_false_eq_true, not_true_eq_false]
theorem s83n {c r : Int32} (h : ¬ ((¬ c < 4 ∧ ¬ 12 < c) ∧ ¬ r < 4 ∧ ¬ 12 < r)) : Run 83 0 [some (.ref (3)), some (.int (c)), some (.int (r)), none] [] (HC z α π β η o od) = some (.inr "java/lang/IllegalArgumentException", HC (zb z) α π β η o od) := by
  by_cases q1 : c < 4
  · simp only [↓reduceIte, e83_0, e83_1, e83_2, e83_5, e83_6, e83_8, e83_11, e83_12, e83_13, e83_16, e83_17, e83_19, e83_22, e83_32, e83_33, e83_36, e83_39, e83_40, e83_41, e83_44, e83_45, e83_48, e83_51, e83_52, e83_55, e83_56, e83_57, e83_60, e83_61, q1, hb_HC, aft_v, aft_n, Option.bind_some, rf_some, ck_i, ck_r, ck_n, nb0, nb1, nbi, Nat.reduceAdd, if_true, if_false, not_false_eq_true, not_true_eq_false]
  by_cases q2 : 12 < c
  · simp only [↓reduceIte, e83_0, e83_1, e83_2, e83_5, e83_6, e83_8, e83_11, e83_12, e83_13, e83_16, e83_17, e83_19, e83_22, e83_32, e83_33, e83_36, e83_39, e83_40, e83_41, e83_44, e83_45, e83_48, e83_51, e83_52, e83_55, e83_56, e83_57, e83_60, e83_61, q1, q2, hb_HC, aft_v, aft_n, Option.bind_some, rf_some, ck_i, ck_r, ck_n, nb0, nb1, nbi, Nat.reduceAdd, if_true, if_false, not_false_eq_true, not_true_eq_false]
  by_cases q3 : r < 4
  · simp only [↓reduceIte, e83_0, e83_1, e83_2, e83_5, e83_6, e83_8, e83_11, e83_12, e83_13, e83_16, e83_17, e83_19, e83_22, e83_32, e83_33, e83_36, e83_39, e83_40, e83_41, e83_44, e83_45, e83_48, e83_51, e83_52, e83_55, e83_56, e83_57, e83_60, e83_61, q1, q2, q3, hb_HC, aft_v, aft_n, Option.bind_some, rf_some, ck_i, ck_r, ck_n, nb0, nb1, nbi, Nat.reduceAdd, if_true, if_false, not_false_eq_true, not_true_eq_false]
  have q4 : 12 < r := by by_cases x : 12 < r; exact x; exact absurd ⟨⟨q1, q2⟩, q3, x⟩ h
  simp only [↓reduceIte, e83_0, e83_1, e83_2, e83_5, e83_6, e83_8, e83_11, e83_12, e83_13, e83_16, e83_17, e83_19, e83_22, e83_32, e83_33, e83_36, e83_39, e83_40, e83_41, e83_44, e83_45, e83_48, e83_51, e83_52, e83_55, e83_56, e83_57, e83_60, e83_61, q1, q2, q3, q4, le_not, hb_HC, aft_v, aft_n, Option.bind_some, rf_some, ck_i, ck_r, ck_n, nb0, nb1, nbi, Nat.reduceAdd, if_true, if_false, not_false_eq_true, not_true_eq_false]
theorem s84 (H : Ok α n) (hp : seas π) (hk : α 15 1 = J k) (h4 : k ≤ 4) {c b : Int32} (hc : isCellC α 4 c) (h1 : shipOnF α c n 0 = -1) (hb : b = 0 ∨ b = 1) : Run 84 0 [some (.ref (3)), some (.int (c)), some (.int (b)), none] [] (HC z α π β η o od) = some (.inl (some (.int (bi (rockC α c)))), (HC z (up2 (saveC α π n k) 5 c.toNatClampNeg b) (saveP π k) β η o od)) := by
  have hs := s30 (z := z) (β := β) (η := η) (o := o) (od := od) H hp hk h4
  have hc1 : isCellC (saveC α π n k) 4 c := by rw [cell_sq (fun j q w => save_sq hp h4 H.n8 q w)]; exact hc
  have hm : Run 49 0 [some (.ref (4)), some (.int (c)), some (.int (b))] [] (HC z (saveC α π n k) (saveP π k) β η o od) = _ := s49 hc1 hb
  by_cases q : rockC α c
  · rw [bi_t q]
    simp only [↓reduceIte, e84_0, e84_1, e84_2, e84_5, e84_6, e84_9, e84_10, e84_13, e84_14, e84_17, e84_27, e84_28, e84_31, e84_32, e84_35, e84_36, e84_37, e84_40, e84_41, e84_44, e84_47, e84_48, e84_51, e84_52, e84_53, e84_56, e84_57, e84_60, e84_61, e84_64, e84_65, isO3, s109 _ hc, gf8_0 kd3, gf8_1 kd3, isO4, isO15, s50 H.hn H.n8, h1, s48, bi_t q, i1_0, hs, hm, aft_v, aft_n, Option.bind_some, rf_some, ck_i, ck_r, ck_n, nb0, nb1, nbi, Nat.reduceAdd, if_true, if_false, not_false_eq_true, not_true_eq_false]
  · rw [bi_f q]
    simp only [↓reduceIte, e84_0, e84_1, e84_2, e84_5, e84_6, e84_9, e84_10, e84_13, e84_14, e84_17, e84_27, e84_28, e84_31, e84_32, e84_35, e84_36, e84_37, e84_40, e84_41, e84_44, e84_47, e84_48, e84_51, e84_52, e84_53, e84_56, e84_57, e84_60, e84_61, e84_64, e84_65, isO3, s109 _ hc, gf8_0 kd3, gf8_1 kd3, isO4, isO15, s50 H.hn H.n8, h1, s48, bi_f q, i1_0, hs, hm, aft_v, aft_n, Option.bind_some, rf_some, ck_i, ck_r, ck_n, nb0, nb1, nbi, Nat.reduceAdd, if_true, if_false, not_false_eq_true, not_true_eq_false]
theorem s84n {c b : Int32} (hc : ¬ isCellC α 4 c) : Run 84 0 [some (.ref (3)), some (.int (c)), some (.int (b)), none] [] (HC z α π β η o od) = some (.inr "java/lang/IndexOutOfBoundsException", HC (zb z) α π β η o od) := by
  simp only [↓reduceIte, e84_0, e84_1, e84_2, e84_5, e84_6, e84_9, e84_10, e84_13, e84_14, e84_17, e84_27, e84_28, e84_31, e84_32, e84_35, e84_36, e84_37, e84_40, e84_41, e84_44, e84_47, e84_48, e84_51, e84_52, e84_53, e84_56, e84_57, e84_60, e84_61, e84_64, e84_65, isO3, s109n _ hc, aft_x mh84, aft_v, aft_n, Option.bind_some, rf_some, ck_i, ck_r, ck_n, nb0, nb1, nbi, Nat.reduceAdd, if_true, if_false, not_false_eq_true, not_true_eq_false]
theorem s84m (H : Ok α n) {c b : Int32} (hc : isCellC α 4 c) (h1 : ¬ shipOnF α c n 0 = -1) : Run 84 0 [some (.ref (3)), some (.int (c)), some (.int (b)), none] [] (HC z α π β η o od) = some (.inr "java/lang/IllegalStateException", HC (zb z) α π β η o od) := by
  simp only [↓reduceIte, e84_0, e84_1, e84_2, e84_5, e84_6, e84_9, e84_10, e84_13, e84_14, e84_17, e84_27, e84_28, e84_31, e84_32, e84_35, e84_36, e84_37, e84_40, e84_41, e84_44, e84_47, e84_48, e84_51, e84_52, e84_53, e84_56, e84_57, e84_60, e84_61, e84_64, e84_65, isO3, s109 _ hc, gf8_0 kd3, isO4, s50 H.hn H.n8, h1, hb_HC, aft_v, aft_n, Option.bind_some, rf_some, ck_i, ck_r, ck_n, nb0, nb1, nbi, Nat.reduceAdd, if_true, if_false, not_false_eq_true, not_true_eq_false]
theorem s85 (H : Ok α n) (hp : seas π) (hk : α 15 1 = J k) (h4 : k ≤ 4) {d s : Int32} (h1 : dirC d) (h2 : ¬ s < 0 ∧ ¬ 3 < s) : Run 85 0 [some (.ref (3)), some (.int (d)), some (.int (s)), none] [] (HC z α π β η o od) = some (.inl (some (.int (α 4 2))), (HC z (up2 (up2 (saveC α π n k) 4 2 d) 4 3 s) (saveP π k) β η o od)) := by
  have hs := s30 (z := z) (β := β) (η := η) (o := o) (od := od) H hp hk h4
  simp only [↓reduceIte, e85_0, e85_1, e85_4, e85_7, e85_8, e85_11, e85_12, e85_13, e85_16, e85_26, e85_27, e85_30, e85_33, e85_34, e85_35, e85_38, e85_39, e85_42, e85_45, e85_46, e85_49, e85_50, e85_53, e85_54, e85_57, e85_58, e85_61, e85_62, s113, bi_t h1, i1_0, h2.1, h2.2, le_not, gf8_0 kd3, gf8_1 kd3, gf6_2 kd4, isO4, isO15, hs, pf6_2 kd4, pf6_3 kd4, aft_v, aft_n, Option.bind_some, rf_some, ck_i, ck_r, ck_n, nb0, nb1, nbi, Nat.reduceAdd, if_true, if_false, not_false_eq_true, not_true_eq_false]
theorem s85n {d s : Int32} (h : ¬ (dirC d ∧ ¬ s < 0 ∧ ¬ 3 < s)) : Run 85 0 [some (.ref (3)), some (.int (d)), some (.int (s)), none] [] (HC z α π β η o od) = some (.inr "java/lang/IllegalArgumentException", HC (zb z) α π β η o od) := by
  by_cases q1 : dirC d
  · by_cases q2 : s < 0
    · simp only [↓reduceIte, e85_0, e85_1, e85_4, e85_7, e85_8, e85_11, e85_12, e85_13, e85_16, e85_26, e85_27, e85_30, e85_33, e85_34, e85_35, e85_38, e85_39, e85_42, e85_45, e85_46, e85_49, e85_50, e85_53, e85_54, e85_57, e85_58, e85_61, e85_62, s113, bi_t q1, i1_0, q2, hb_HC, aft_v, aft_n, Option.bind_some, rf_some, ck_i, ck_r, ck_n, nb0, nb1, nbi, Nat.reduceAdd, if_true, if_false, not_false_eq_true, not_true_eq_false]
    · have q3 : 3 < s := by by_cases x : 3 < s; exact x; exact absurd ⟨q1, q2, x⟩ h
      simp only [↓reduceIte, e85_0, e85_1, e85_4, e85_7, e85_8, e85_11, e85_12, e85_13, e85_16, e85_26, e85_27, e85_30, e85_33, e85_34, e85_35, e85_38, e85_39, e85_42, e85_45, e85_46, e85_49, e85_50, e85_53, e85_54, e85_57, e85_58, e85_61, e85_62, s113, bi_t q1, i1_0, q2, q3, le_not, hb_HC, aft_v, aft_n, Option.bind_some, rf_some, ck_i, ck_r, ck_n, nb0, nb1, nbi, Nat.reduceAdd, if_true, if_false, not_false_eq_true, not_true_eq_false]
  · simp only [↓reduceIte, e85_0, e85_1, e85_4, e85_7, e85_8, e85_11, e85_12, e85_13, e85_16, e85_26, e85_27, e85_30, e85_33, e85_34, e85_35, e85_38, e85_39, e85_42, e85_45, e85_46, e85_49, e85_50, e85_53, e85_54, e85_57, e85_58, e85_61, e85_62, s113, bi_f q1, hb_HC, aft_v, aft_n, Option.bind_some, rf_some, ck_i, ck_r, ck_n, nb0, nb1, nbi, Nat.reduceAdd, if_true, if_false, not_false_eq_true, not_true_eq_false]
end S55
section S55m
variable {z : Zr} {α β γ : Mem} {π : Nat → Nat} {η : Int64} {o : Nat → Int64} {od : Nat → UInt64} {n l k : Nat}
end S55m
section S55o
variable {z : Zr} {α β γ : Mem} {π : Nat → Nat} {η : Int64} {o : Nat → Int64} {od : Nat → UInt64} {n l k : Nat}
end S55o
