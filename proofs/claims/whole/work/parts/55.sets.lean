/-! begin, setRock, setWind -/
theorem mh84 : mHh 84 = [] := rfl
theorem Ok_new {α : Mem} {c r : Int32} (h1 : ¬ c < 4 ∧ ¬ 12 < c) (h2 : ¬ r < 4 ∧ ¬ 12 < r) : Ok (newC α 4 c r) 0 := by
  have t3 : (2 : Int32).toInt = 2 := rfl
  have g := new_4 α c r
  have g5 := new_5 α c r
  have e0 : newC α 4 c r 4 0 = c := by rw [g]; simp only [up2_a]; rfl
  have e1 : newC α 4 c r 4 1 = r := by rw [g]; simp only [up2_a]; rfl
  have e2 : newC α 4 c r 4 2 = 0 := by rw [g]; simp only [up2_a]; rfl
  have e3 : newC α 4 c r 4 3 = 2 := by rw [g]; simp only [up2_a]; rfl
  have e5 : newC α 4 c r 4 5 = 0 := by rw [g]; simp only [up2_a]; rfl
  have a1 := h1.1; have a2 := h1.2; have a3 := h2.1; have a4 := h2.2
  rw [i32_lt, ti4] at a1 a3
  rw [i32_lt, ti12] at a2 a4
  unfold Ok
  rw [e0, e1, e2, e3, e5]
  refine ⟨⟨by omega, by omega⟩, ⟨by omega, by omega⟩, ⟨0, by decide, rfl⟩, ⟨by decide, by decide⟩, by decide, rfl, fun q hq => Or.inl (g5 q hq), ?_⟩
  refine ⟨?_, ?_, ?_, ?_, ?_, ?_, ?_, ?_, ?_, ?_, ?_, ?_, ?_, ?_, ?_⟩ <;> exact fun i hi => absurd hi (Nat.not_lt_zero i)
theorem Dj_0 (α : Mem) : Dj α 0 := fun i _ hi => absurd hi (Nat.not_lt_zero i)
theorem Fs_new (α : Mem) (c r : Int32) : Fs α (newC α 4 c r) := by
  unfold newC fillC
  exact Fs_t (Fs_t (Fs_t (Fs_t (Fs_t (Fs_t (Fs_up α (by decide) 0 c) (Fs_up _ (by decide) 1 r)) (Fs_up _ (by decide) 2 0)) (Fs_up _ (by decide) 3 2)) (Fs_up _ (by decide) 4 1)) (Fs_up _ (by decide) 5 0)) (Fs_upA _ (by decide) _)
theorem keep_71 (β : Mem) (k : Nat) : keepB β k 71 = β 71 := by unfold keepB; rw [up2_ne _ (by decide), upA_ne _ (by decide)]
theorem keep_705 (β : Mem) (k : Nat) : keepB β k 70 5 = β 70 5 := by unfold keepB; rw [up2_rd _ _ _ _ _ (by decide), upA_ne _ (by decide)]
theorem Rm_keep {β α : Mem} {n : Nat} (R : Rm (β 71) α n) (k : Nat) (v : Int32) : Rm (keepB (up2 β 70 5 v) k 71) α n := by rw [keep_71]; exact Rm_cd R 5 v
theorem Md_705 {β β' : Mem} (h : Md β β') : β' 70 5 = β 70 5 := by rw [h 70 (by decide)]
theorem Rm_71 {β α : Mem} {n : Nat} (R : Rm (β 71) α n) {k : Nat} (hk : k < 5) (v : Int32) : Rm (up2 β 71 k v 71) (up2 α 4 k v) n := by rw [up2_at]; exact Rm_4 R hk v
theorem up2_70 (β : Mem) (k : Nat) (v : Int32) : up2 β 71 k v 70 5 = β 70 5 := by rw [up2_ne _ (by decide)]
theorem Dj_up {α : Mem} {n a k : Nat} {v : Int32} (D : Dj α n) (h : k ≠ 1 ∧ k ≠ 3) : Dj (up2 α a k v) n := by
  have e : ∀ i m, (m = 1 ∨ m = 3) → up2 α a k v (7 + i) m = α (7 + i) m := fun i m hm => by
    by_cases q : 7 + i = a
    · rw [q, up2_a, if_neg (by omega)]
    · rw [up2_ne _ q]
  intro i j hi hj hij h1 h2
  rw [e i 3 (Or.inr rfl)] at h1
  rw [e j 3 (Or.inr rfl)] at h2
  rw [e i 1 (Or.inl rfl), e j 1 (Or.inl rfl)]
  exact D i j hi hj hij h1 h2
theorem Dj_4 {α : Mem} {n a k : Nat} {v : Int32} (D : Dj α n) (h : a < 7) : Dj (up2 α a k v) n := by
  intro i j hi hj hij h1 h2
  rw [up2_ne _ (by omega)] at h1 h2 ⊢
  rw [up2_ne _ (by omega)]
  exact D i j hi hj hij h1 h2
theorem Ok_rock {α : Mem} {n : Nat} (H : Ok α n) (c : Nat) {v : Int32} (hv : v = 0 ∨ v = 1) : Ok (up2 α 5 c v) n := by
  have e4 : ∀ m, up2 α 5 c v 4 m = α 4 m := fun m => by rw [up2_ne _ (by decide)]
  have es : ∀ i m, up2 α 5 c v (7 + i) m = α (7 + i) m := fun i m => by rw [up2_ne _ (by omega)]
  unfold Ok
  simp only [e4, es]
  refine ⟨H.cols, H.rows, H.wd, H.ws, H.n8, H.hn, fun q hq => ?_, H.2.2.2.2.2.2.2⟩
  rw [up2_a]
  split
  · exact hv
  · exact H.rk q hq
theorem Rm_rock {q : Nat → Int32} {α : Mem} {n : Nat} (R : Rm q α n) (h8 : n ≤ 8) {c : Nat} (hc : c < 144) (v : Int32) : Rm (upd q (126 + c) v) (up2 α 5 c v) n := by
  refine ⟨fun m hm => ?_, fun m hm => ?_, fun j hj m hm => ?_⟩
  · rw [upd_ne _ (by omega), up2_ne _ (by decide)]; exact R.1 m hm
  · rw [up2_a]
    by_cases h : m = c
    · rw [h, upd_at, if_pos rfl]
    · rw [upd_ne _ (by omega), if_neg h]; exact R.2.1 m hm
  · rw [upd_ne _ (by omega), up2_ne _ (by omega)]; exact R.2.2 j hj m hm
theorem cell_sq {α α1 : Mem} (h : ∀ j, 4 ≤ j → j < 15 → α1 j = α j) (c : Int32) : isCellC α1 4 c = isCellC α 4 c := by unfold isCellC; rw [h 4 (by decide) (by decide)]
section S55
variable {z : Zr} {α β γ : Mem} {π : Nat → Nat} {η : Int64} {o : Nat → Int64} {od : Nat → UInt64} {n l k : Nat}
theorem s83 (H : Ok α n) (hp : seas π) (hk : α 15 1 = J k) (h4 : k ≤ 4) {c r : Int32} (h1 : ¬ c < 4 ∧ ¬ 12 < c) (h2 : ¬ r < 4 ∧ ¬ 12 < r) : Run 83 0 [some (.ref (3)), some (.int (c)), some (.int (r)), none] [] (HC z α π β η o od) = some (.inl (some (.int (α 4 5))), (HC z (newC (saveC α π n k) 4 c r) (saveP π k) β η o od)) := by
  have hs := s30 (z := z) (β := β) (η := η) (o := o) (od := od) H hp hk h4
  have hm : Run 41 0 [some (.ref (4)), some (.int (c)), some (.int (r))] [] (HC z (saveC α π n k) (saveP π k) β η o od) = _ := s41 kd4 kd5 (by decide) c r
  simp only [↓reduceIte, e83_0, e83_1, e83_2, e83_5, e83_6, e83_8, e83_11, e83_12, e83_13, e83_16, e83_17, e83_19, e83_22, e83_32, e83_33, e83_36, e83_39, e83_40, e83_41, e83_44, e83_45, e83_48, e83_51, e83_52, e83_55, e83_56, e83_57, e83_60, e83_61, gf8_0 kd3, gf8_1 kd3, gf6_5 kd4, isO4, isO15, h1.1, h1.2, h2.1, h2.2, le_not, hs, hm, aft_v, aft_n, Option.bind_some, rf_some, ck_i, ck_r, ck_n, nb0, nb1, nbi, Nat.reduceAdd, if_true, if_false, not_false_eq_true, not_true_eq_false]
theorem s83n {c r : Int32} (h : ¬ ((¬ c < 4 ∧ ¬ 12 < c) ∧ ¬ r < 4 ∧ ¬ 12 < r)) : Run 83 0 [some (.ref (3)), some (.int (c)), some (.int (r)), none] [] (HC z α π β η o od) = some (.inr "java/lang/IllegalArgumentException", HC (zb z) α π β η o od) := by
  by_cases q1 : c < 4
  · simp only [↓reduceIte, e83_0, e83_1, e83_2, e83_5, e83_6, e83_8, e83_11, e83_12, e83_13, e83_16, e83_17, e83_19, e83_22, e83_32, e83_33, e83_36, e83_39, e83_40, e83_41, e83_44, e83_45, e83_48, e83_51, e83_52, e83_55, e83_56, e83_57, e83_60, e83_61, q1, hb_HC, aft_v, aft_n, Option.bind_some, rf_some, ck_i, ck_r, ck_n, nb0, nb1, nbi, Nat.reduceAdd, if_true, if_false, not_false_eq_true, not_true_eq_false]
  by_cases q2 : 12 < c
  · simp only [↓reduceIte, e83_0, e83_1, e83_2, e83_5, e83_6, e83_8, e83_11, e83_12, e83_13, e83_16, e83_17, e83_19, e83_22, e83_32, e83_33, e83_36, e83_39, e83_40, e83_41, e83_44, e83_45, e83_48, e83_51, e83_52, e83_55, e83_56, e83_57, e83_60, e83_61, q1, q2, hb_HC, aft_v, aft_n, Option.bind_some, rf_some, ck_i, ck_r, ck_n, nb0, nb1, nbi, Nat.reduceAdd, if_true, if_false, not_false_eq_true, not_true_eq_false]
  by_cases q3 : r < 4
  · simp only [↓reduceIte, e83_0, e83_1, e83_2, e83_5, e83_6, e83_8, e83_11, e83_12, e83_13, e83_16, e83_17, e83_19, e83_22, e83_32, e83_33, e83_36, e83_39, e83_40, e83_41, e83_44, e83_45, e83_48, e83_51, e83_52, e83_55, e83_56, e83_57, e83_60, e83_61, q1, q2, q3, hb_HC, aft_v, aft_n, Option.bind_some, rf_some, ck_i, ck_r, ck_n, nb0, nb1, nbi, Nat.reduceAdd, if_true, if_false, not_false_eq_true, not_true_eq_false]
  have q4 : 12 < r := by by_cases x : 12 < r; exact x; exact absurd ⟨⟨q1, q2⟩, q3, x⟩ h
  simp only [↓reduceIte, e83_0, e83_1, e83_2, e83_5, e83_6, e83_8, e83_11, e83_12, e83_13, e83_16, e83_17, e83_19, e83_22, e83_32, e83_33, e83_36, e83_39, e83_40, e83_41, e83_44, e83_45, e83_48, e83_51, e83_52, e83_55, e83_56, e83_57, e83_60, e83_61, q1, q2, q3, q4, le_not, hb_HC, aft_v, aft_n, Option.bind_some, rf_some, ck_i, ck_r, ck_n, nb0, nb1, nbi, Nat.reduceAdd, if_true, if_false, not_false_eq_true, not_true_eq_false]
theorem s84 (H : Ok α n) (hp : seas π) (hk : α 15 1 = J k) (h4 : k ≤ 4) {c b : Int32} (hc : isCellC α 4 c) (h1 : shipOnF α c n 0 = -1) (hb : b = 0 ∨ b = 1) : Run 84 0 [some (.ref (3)), some (.int (c)), some (.int (b)), none] [] (HC z α π β η o od) = some (.inl (some (.int (bi (rockC α c)))), (HC z (up2 (saveC α π n k) 5 c.toNatClampNeg b) (saveP π k) β η o od)) := by
  have hs := s30 (z := z) (β := β) (η := η) (o := o) (od := od) H hp hk h4
  have hc1 : isCellC (saveC α π n k) 4 c := by rw [cell_sq (fun j q w => save_sq hp h4 H.n8 q w)]; exact hc
  have hm : Run 49 0 [some (.ref (4)), some (.int (c)), some (.int (b))] [] (HC z (saveC α π n k) (saveP π k) β η o od) = _ := s49 hc1 hb
  by_cases q : rockC α c
  · rw [bi_t q]
    simp only [↓reduceIte, e84_0, e84_1, e84_2, e84_5, e84_6, e84_9, e84_10, e84_13, e84_14, e84_17, e84_27, e84_28, e84_31, e84_32, e84_35, e84_36, e84_37, e84_40, e84_41, e84_44, e84_47, e84_48, e84_51, e84_52, e84_53, e84_56, e84_57, e84_60, e84_61, e84_64, e84_65, isO3, s110 _ hc, gf8_0 kd3, gf8_1 kd3, isO4, isO15, s50 H.hn H.n8, h1, s48, bi_t q, i1_0, hs, hm, aft_v, aft_n, Option.bind_some, rf_some, ck_i, ck_r, ck_n, nb0, nb1, nbi, Nat.reduceAdd, if_true, if_false, not_false_eq_true, not_true_eq_false]
  · rw [bi_f q]
    simp only [↓reduceIte, e84_0, e84_1, e84_2, e84_5, e84_6, e84_9, e84_10, e84_13, e84_14, e84_17, e84_27, e84_28, e84_31, e84_32, e84_35, e84_36, e84_37, e84_40, e84_41, e84_44, e84_47, e84_48, e84_51, e84_52, e84_53, e84_56, e84_57, e84_60, e84_61, e84_64, e84_65, isO3, s110 _ hc, gf8_0 kd3, gf8_1 kd3, isO4, isO15, s50 H.hn H.n8, h1, s48, bi_f q, i1_0, hs, hm, aft_v, aft_n, Option.bind_some, rf_some, ck_i, ck_r, ck_n, nb0, nb1, nbi, Nat.reduceAdd, if_true, if_false, not_false_eq_true, not_true_eq_false]
theorem s84n {c b : Int32} (hc : ¬ isCellC α 4 c) : Run 84 0 [some (.ref (3)), some (.int (c)), some (.int (b)), none] [] (HC z α π β η o od) = some (.inr "java/lang/IndexOutOfBoundsException", HC (zb z) α π β η o od) := by
  simp only [↓reduceIte, e84_0, e84_1, e84_2, e84_5, e84_6, e84_9, e84_10, e84_13, e84_14, e84_17, e84_27, e84_28, e84_31, e84_32, e84_35, e84_36, e84_37, e84_40, e84_41, e84_44, e84_47, e84_48, e84_51, e84_52, e84_53, e84_56, e84_57, e84_60, e84_61, e84_64, e84_65, isO3, s110n _ hc, aft_x mh84, aft_v, aft_n, Option.bind_some, rf_some, ck_i, ck_r, ck_n, nb0, nb1, nbi, Nat.reduceAdd, if_true, if_false, not_false_eq_true, not_true_eq_false]
theorem s84m (H : Ok α n) {c b : Int32} (hc : isCellC α 4 c) (h1 : ¬ shipOnF α c n 0 = -1) : Run 84 0 [some (.ref (3)), some (.int (c)), some (.int (b)), none] [] (HC z α π β η o od) = some (.inr "java/lang/IllegalStateException", HC (zb z) α π β η o od) := by
  simp only [↓reduceIte, e84_0, e84_1, e84_2, e84_5, e84_6, e84_9, e84_10, e84_13, e84_14, e84_17, e84_27, e84_28, e84_31, e84_32, e84_35, e84_36, e84_37, e84_40, e84_41, e84_44, e84_47, e84_48, e84_51, e84_52, e84_53, e84_56, e84_57, e84_60, e84_61, e84_64, e84_65, isO3, s110 _ hc, gf8_0 kd3, isO4, s50 H.hn H.n8, h1, hb_HC, aft_v, aft_n, Option.bind_some, rf_some, ck_i, ck_r, ck_n, nb0, nb1, nbi, Nat.reduceAdd, if_true, if_false, not_false_eq_true, not_true_eq_false]
theorem s85 (H : Ok α n) (hp : seas π) (hk : α 15 1 = J k) (h4 : k ≤ 4) {d s : Int32} (h1 : dirC d) (h2 : ¬ s < 0 ∧ ¬ 3 < s) : Run 85 0 [some (.ref (3)), some (.int (d)), some (.int (s)), none] [] (HC z α π β η o od) = some (.inl (some (.int (α 4 2))), (HC z (up2 (up2 (saveC α π n k) 4 2 d) 4 3 s) (saveP π k) β η o od)) := by
  have hs := s30 (z := z) (β := β) (η := η) (o := o) (od := od) H hp hk h4
  simp only [↓reduceIte, e85_0, e85_1, e85_4, e85_7, e85_8, e85_11, e85_12, e85_13, e85_16, e85_26, e85_27, e85_30, e85_33, e85_34, e85_35, e85_38, e85_39, e85_42, e85_45, e85_46, e85_49, e85_50, e85_53, e85_54, e85_57, e85_58, e85_61, e85_62, s114, bi_t h1, i1_0, h2.1, h2.2, le_not, gf8_0 kd3, gf8_1 kd3, gf6_2 kd4, isO4, isO15, hs, pf6_2 kd4, pf6_3 kd4, aft_v, aft_n, Option.bind_some, rf_some, ck_i, ck_r, ck_n, nb0, nb1, nbi, Nat.reduceAdd, if_true, if_false, not_false_eq_true, not_true_eq_false]
theorem s85n {d s : Int32} (h : ¬ (dirC d ∧ ¬ s < 0 ∧ ¬ 3 < s)) : Run 85 0 [some (.ref (3)), some (.int (d)), some (.int (s)), none] [] (HC z α π β η o od) = some (.inr "java/lang/IllegalArgumentException", HC (zb z) α π β η o od) := by
  by_cases q1 : dirC d
  · by_cases q2 : s < 0
    · simp only [↓reduceIte, e85_0, e85_1, e85_4, e85_7, e85_8, e85_11, e85_12, e85_13, e85_16, e85_26, e85_27, e85_30, e85_33, e85_34, e85_35, e85_38, e85_39, e85_42, e85_45, e85_46, e85_49, e85_50, e85_53, e85_54, e85_57, e85_58, e85_61, e85_62, s114, bi_t q1, i1_0, q2, hb_HC, aft_v, aft_n, Option.bind_some, rf_some, ck_i, ck_r, ck_n, nb0, nb1, nbi, Nat.reduceAdd, if_true, if_false, not_false_eq_true, not_true_eq_false]
    · have q3 : 3 < s := by by_cases x : 3 < s; exact x; exact absurd ⟨q1, q2, x⟩ h
      simp only [↓reduceIte, e85_0, e85_1, e85_4, e85_7, e85_8, e85_11, e85_12, e85_13, e85_16, e85_26, e85_27, e85_30, e85_33, e85_34, e85_35, e85_38, e85_39, e85_42, e85_45, e85_46, e85_49, e85_50, e85_53, e85_54, e85_57, e85_58, e85_61, e85_62, s114, bi_t q1, i1_0, q2, q3, le_not, hb_HC, aft_v, aft_n, Option.bind_some, rf_some, ck_i, ck_r, ck_n, nb0, nb1, nbi, Nat.reduceAdd, if_true, if_false, not_false_eq_true, not_true_eq_false]
  · simp only [↓reduceIte, e85_0, e85_1, e85_4, e85_7, e85_8, e85_11, e85_12, e85_13, e85_16, e85_26, e85_27, e85_30, e85_33, e85_34, e85_35, e85_38, e85_39, e85_42, e85_45, e85_46, e85_49, e85_50, e85_53, e85_54, e85_57, e85_58, e85_61, e85_62, s114, bi_f q1, hb_HC, aft_v, aft_n, Option.bind_some, rf_some, ck_i, ck_r, ck_n, nb0, nb1, nbi, Nat.reduceAdd, if_true, if_false, not_false_eq_true, not_true_eq_false]
end S55
section S55m
variable {z : Zr} {α β γ : Mem} {π : Nat → Nat} {η : Int64} {o : Nat → Int64} {od : Nat → UInt64} {n l k : Nat}
theorem s140 (H : Ok α n) (R : Rm (β 71) α n) (hk : β 70 2 = J k) (h4 : k ≤ 4) {c r : Int32} (h1 : ¬ c < 4 ∧ ¬ 12 < c) (h2 : ¬ r < 4 ∧ ¬ 12 < r) : Run 140 0 [some (.ref (70)), some (.int (c)), some (.int (r)), none] [] (HC z γ π β η o od) = some (.inl (some (.int (α 4 5))), (HC z γ π (anewB (keepB (up2 β 70 5 0) k) c r) η o od)) := by
  have hs := s121 (z := z) (γ := γ) (π := π) (η := η) (o := o) (od := od) (β := up2 β 70 5 0) (k := k) (by rw [up2_rd _ _ _ _ _ (by decide)]; exact hk) h4
  simp only [↓reduceIte, e140_0, e140_1, e140_2, e140_3, e140_5, e140_8, e140_11, e140_12, e140_13, e140_15, e140_18, e140_21, e140_22, e140_25, e140_26, e140_29, e140_30, e140_33, e140_36, e140_37, e140_38, e140_39, e140_42, e140_43, e140_46, e140_47, e140_48, e140_49, e140_50, e140_51, e140_52, e140_55, e140_56, isO70, s118, bi_t h1, bi_t h2, i1_0, pf9_5 kd_70, gf9_5 kd_70, gf9_0 kd_70, up2_rr, hs, m71_5 (Rm_keep R k 0), s116, aft_v, aft_n, Option.bind_some, rf_some, ck_i, ck_r, ck_n, nb0, nb1, nbi, Nat.reduceAdd, if_true, if_false, not_false_eq_true, not_true_eq_false]
theorem s140n {c r : Int32} (h : ¬ ((¬ c < 4 ∧ ¬ 12 < c) ∧ ¬ r < 4 ∧ ¬ 12 < r)) : Run 140 0 [some (.ref (70)), some (.int (c)), some (.int (r)), none] [] (HC z γ π β η o od) = some (.inl (some (.int (0))), (HC z γ π (up2 β 70 5 1) η o od)) := by
  by_cases q : (¬ c < 4 ∧ ¬ 12 < c)
  · have q2 : ¬ (¬ r < 4 ∧ ¬ 12 < r) := fun w => h ⟨q, w⟩
    simp only [↓reduceIte, e140_0, e140_1, e140_2, e140_3, e140_5, e140_8, e140_11, e140_12, e140_13, e140_15, e140_18, e140_21, e140_22, e140_25, e140_26, e140_29, e140_30, e140_33, e140_36, e140_37, e140_38, e140_39, e140_42, e140_43, e140_46, e140_47, e140_48, e140_49, e140_50, e140_51, e140_52, e140_55, e140_56, s118, bi_t q, bi_f q2, i1_0, pf9_5 kd_70, gf9_5 kd_70, up2_rr, aft_v, aft_n, Option.bind_some, rf_some, ck_i, ck_r, ck_n, nb0, nb1, nbi, Nat.reduceAdd, if_true, if_false, not_false_eq_true, not_true_eq_false]
  · simp only [↓reduceIte, e140_0, e140_1, e140_2, e140_3, e140_5, e140_8, e140_11, e140_12, e140_13, e140_15, e140_18, e140_21, e140_22, e140_25, e140_26, e140_29, e140_30, e140_33, e140_36, e140_37, e140_38, e140_39, e140_42, e140_43, e140_46, e140_47, e140_48, e140_49, e140_50, e140_51, e140_52, e140_55, e140_56, s118, bi_f q, i1_0, pf9_5 kd_70, gf9_5 kd_70, up2_rr, aft_v, aft_n, Option.bind_some, rf_some, ck_i, ck_r, ck_n, nb0, nb1, nbi, Nat.reduceAdd, if_true, if_false, not_false_eq_true, not_true_eq_false]
theorem s141 (H : Ok α n) (R : Rm (β 71) α n) (hk : β 70 2 = J k) (h4 : k ≤ 4) {c b : Int32} (hc : isCellC α 4 c) (h1 : shipOnF α c n 0 = -1) (hb : b = 0 ∨ b = 1) : Run 141 0 [some (.ref (70)), some (.int (c)), some (.int (b)), none] [] (HC z γ π β η o od) = some (.inl (some (.int (bi (rockC α c)))), (HC z γ π (up2 (keepB (up2 β 70 5 0) k) 71 (126 + c.toNatClampNeg) b) η o od)) := by
  have hs := s121 (z := z) (γ := γ) (π := π) (η := η) (o := o) (od := od) (β := up2 β 70 5 0) (k := k) (by rw [up2_rd _ _ _ _ _ (by decide)]; exact hk) h4
  obtain ⟨m, hm, rfl⟩ := cell_J H hc
  have er := m71_rock (z := z) (γ := γ) (π := π) (η := η) (o := o) (od := od) (Rm_keep R k 0) hc H
  have ew : ∀ v, paI (HC z γ π (keepB (up2 β 70 5 0) k) η o od) 71 (126 + J m) v = some (HC z γ π (up2 (keepB (up2 β 70 5 0) k) 71 (126 + m) v) η o od) := fun v => by
    rw [J_shift, paI41 kd_71 (in71h (by omega)), J_tn (by omega)]
  rw [J_tn (by omega)] at er
  rw [show 126 + (J m).toNatClampNeg = 126 + m by rw [J_tn (by omega)]]
  have e0 : α 5 m = bi (rockC α (J m)) := by
    rcases H.rk m hm with q | q
    · rw [bi_f (fun w : rockC α (J m) => w.2 (by rw [J_tn (by omega)]; exact q)), q]
    · rw [bi_t (show rockC α (J m) from ⟨hc, by rw [J_tn (by omega), q]; decide⟩), q]
  rw [e0] at er
  rcases hb with rfl | rfl <;> simp only [↓reduceIte, e141_0, e141_1, e141_2, e141_3, e141_6, e141_9, e141_10, e141_13, e141_14, e141_15, e141_18, e141_19, e141_22, e141_23, e141_26, e141_27, e141_30, e141_31, e141_34, e141_37, e141_38, e141_39, e141_40, e141_43, e141_44, e141_47, e141_49, e141_50, e141_51, e141_52, e141_53, e141_54, e141_57, e141_59, e141_60, e141_61, e141_62, e141_65, e141_66, e141_69, e141_70, e141_71, e141_72, isO70, s123 H R, bi_t hc, s131 H R, h1, i1_0, pf9_5 kd_70, gf9_5 kd_70, gf9_0 kd_70, up2_rr, hs, er, ew, aft_v, aft_n, Option.bind_some, rf_some, ck_i, ck_r, ck_n, nb0, nb1, nbi, Nat.reduceAdd, if_true, if_false, not_false_eq_true, not_true_eq_false]
theorem s141n (H : Ok α n) (R : Rm (β 71) α n) {c b : Int32} (hc : ¬ isCellC α 4 c) : Run 141 0 [some (.ref (70)), some (.int (c)), some (.int (b)), none] [] (HC z γ π β η o od) = some (.inl (some (.int (0))), (HC z γ π (up2 β 70 5 1) η o od)) := by
  simp only [↓reduceIte, e141_0, e141_1, e141_2, e141_3, e141_6, e141_9, e141_10, e141_13, e141_14, e141_15, e141_18, e141_19, e141_22, e141_23, e141_26, e141_27, e141_30, e141_31, e141_34, e141_37, e141_38, e141_39, e141_40, e141_43, e141_44, e141_47, e141_49, e141_50, e141_51, e141_52, e141_53, e141_54, e141_57, e141_59, e141_60, e141_61, e141_62, e141_65, e141_66, e141_69, e141_70, e141_71, e141_72, isO70, s123 H R, bi_f hc, i1_0, pf9_5 kd_70, gf9_5 kd_70, up2_rr, aft_v, aft_n, Option.bind_some, rf_some, ck_i, ck_r, ck_n, nb0, nb1, nbi, Nat.reduceAdd, if_true, if_false, not_false_eq_true, not_true_eq_false]
theorem s141m (H : Ok α n) (R : Rm (β 71) α n) {c b : Int32} (hc : isCellC α 4 c) (h1 : ¬ shipOnF α c n 0 = -1) : Run 141 0 [some (.ref (70)), some (.int (c)), some (.int (b)), none] [] (HC z γ π β η o od) = some (.inl (some (.int (0))), (HC z γ π (up2 β 70 5 2) η o od)) := by
  simp only [↓reduceIte, e141_0, e141_1, e141_2, e141_3, e141_6, e141_9, e141_10, e141_13, e141_14, e141_15, e141_18, e141_19, e141_22, e141_23, e141_26, e141_27, e141_30, e141_31, e141_34, e141_37, e141_38, e141_39, e141_40, e141_43, e141_44, e141_47, e141_49, e141_50, e141_51, e141_52, e141_53, e141_54, e141_57, e141_59, e141_60, e141_61, e141_62, e141_65, e141_66, e141_69, e141_70, e141_71, e141_72, isO70, s123 H R, bi_t hc, s131 H R, h1, i1_0, ln2_0, pf9_5 kd_70, gf9_5 kd_70, up2_rr, aft_v, aft_n, Option.bind_some, rf_some, ck_i, ck_r, ck_n, nb0, nb1, nbi, Nat.reduceAdd, if_true, if_false, not_false_eq_true, not_true_eq_false]
theorem s142 (H : Ok α n) (R : Rm (β 71) α n) (hk : β 70 2 = J k) (h4 : k ≤ 4) {d s : Int32} (h1 : dirC d) (h2 : ¬ s < 0 ∧ ¬ 3 < s) : Run 142 0 [some (.ref (70)), some (.int (d)), some (.int (s)), none] [] (HC z γ π β η o od) = some (.inl (some (.int (α 4 2))), (HC z γ π (up2 (up2 (keepB (up2 β 70 5 0) k) 71 2 d) 71 3 s) η o od)) := by
  have hs := s121 (z := z) (γ := γ) (π := π) (η := η) (o := o) (od := od) (β := up2 β 70 5 0) (k := k) (by rw [up2_rd _ _ _ _ _ (by decide)]; exact hk) h4
  have p2 : ∀ (β' : Mem) v, paI (HC z γ π β' η o od) 71 2 v = some (HC z γ π (up2 β' 71 2 v) η o od) := fun β' v => paI41 kd_71 (in71h (k := 2) (by decide))
  have p3 : ∀ (β' : Mem) v, paI (HC z γ π β' η o od) 71 3 v = some (HC z γ π (up2 β' 71 3 v) η o od) := fun β' v => paI41 kd_71 (in71h (k := 3) (by decide))
  simp only [↓reduceIte, e142_0, e142_1, e142_2, e142_3, e142_4, e142_7, e142_10, e142_11, e142_12, e142_13, e142_16, e142_19, e142_20, e142_23, e142_24, e142_27, e142_28, e142_31, e142_34, e142_35, e142_36, e142_37, e142_40, e142_41, e142_44, e142_45, e142_46, e142_47, e142_48, e142_51, e142_52, e142_53, e142_54, e142_55, e142_58, e142_59, e142_60, e142_61, e142_62, isO70, s118, bi_t h1, bi_t h2, i1_0, pf9_5 kd_70, gf9_5 kd_70, gf9_0 kd_70, up2_rr, hs, m71_2 (Rm_keep R k 0), p2, p3, aft_v, aft_n, Option.bind_some, rf_some, ck_i, ck_r, ck_n, nb0, nb1, nbi, Nat.reduceAdd, if_true, if_false, not_false_eq_true, not_true_eq_false]
theorem s142n {d s : Int32} (h : ¬ (dirC d ∧ ¬ s < 0 ∧ ¬ 3 < s)) : Run 142 0 [some (.ref (70)), some (.int (d)), some (.int (s)), none] [] (HC z γ π β η o od) = some (.inl (some (.int (0))), (HC z γ π (up2 β 70 5 1) η o od)) := by
  by_cases q : dirC d
  · have q2 : ¬ (¬ s < 0 ∧ ¬ 3 < s) := fun w => h ⟨q, w⟩
    simp only [↓reduceIte, e142_0, e142_1, e142_2, e142_3, e142_4, e142_7, e142_10, e142_11, e142_12, e142_13, e142_16, e142_19, e142_20, e142_23, e142_24, e142_27, e142_28, e142_31, e142_34, e142_35, e142_36, e142_37, e142_40, e142_41, e142_44, e142_45, e142_46, e142_47, e142_48, e142_51, e142_52, e142_53, e142_54, e142_55, e142_58, e142_59, e142_60, e142_61, e142_62, s118, bi_t q, bi_f q2, i1_0, pf9_5 kd_70, gf9_5 kd_70, up2_rr, aft_v, aft_n, Option.bind_some, rf_some, ck_i, ck_r, ck_n, nb0, nb1, nbi, Nat.reduceAdd, if_true, if_false, not_false_eq_true, not_true_eq_false]
  · simp only [↓reduceIte, e142_0, e142_1, e142_2, e142_3, e142_4, e142_7, e142_10, e142_11, e142_12, e142_13, e142_16, e142_19, e142_20, e142_23, e142_24, e142_27, e142_28, e142_31, e142_34, e142_35, e142_36, e142_37, e142_40, e142_41, e142_44, e142_45, e142_46, e142_47, e142_48, e142_51, e142_52, e142_53, e142_54, e142_55, e142_58, e142_59, e142_60, e142_61, e142_62, s118, bi_f q, i1_0, pf9_5 kd_70, gf9_5 kd_70, up2_rr, aft_v, aft_n, Option.bind_some, rf_some, ck_i, ck_r, ck_n, nb0, nb1, nbi, Nat.reduceAdd, if_true, if_false, not_false_eq_true, not_true_eq_false]
end S55m
section S55o
variable {z : Zr} {α β γ : Mem} {π : Nat → Nat} {η : Int64} {o : Nat → Int64} {od : Nat → UInt64} {n l k : Nat}
theorem Inv.k2 (I : Inv α π β n l k) : β 70 2 = J k := I.2.2.2.2.2.2.1
theorem Inv.k1 (I : Inv α π β n l k) : α 15 1 = J k := I.2.2.2.2.1
theorem Inv.k4 (I : Inv α π β n l k) : k ≤ 4 := I.2.2.2.2.2.1
theorem Inv.se (I : Inv α π β n l k) : seas π := I.2.2.2.2.2.2.2.1
theorem Inv_kept (I : Inv α π β n l k) : Inv (saveC α π n k) (saveP π k) (keepB (up2 β 70 5 0) k) n l (saveK k + 1) := Inv_save (Inv_code I 0)
theorem kept_5 (β : Mem) (k : Nat) : keepB (up2 β 70 5 0) k 70 5 = 0 := by rw [keep_705, up2_rr]
theorem op_begin (I : Inv α π β n l k) (c r : Int32) : Res (fun hh => Run 213 0 [some (.ref (3)), some (.int (c)), some (.int (r)), some (.ref (75)), none] [] hh) (fun hh => Run 140 0 [some (.ref (70)), some (.int (c)), some (.int (r)), none] [] hh) z α π β η o od := by
  by_cases q : (¬ c < 4 ∧ ¬ 12 < c) ∧ ¬ r < 4 ∧ ¬ 12 < r
  · refine Res_m (n := 0) (l := l) (k := saveK k + 1) (w213_ok _ _ (s83 I.1 I.se I.k1 I.k4 q.1 q.2)) (s140 I.1 I.2.2.1 I.k2 I.k4 q.1 q.2) ?_ ?_
    · rw [Md_705 (Md_anew _ c r), kept_5]
    · exact Inv_up (Inv_kept I) (Fs_new _ c r) (Ok_new q.1 q.2) (Dj_0 _) (Rm_new _ _ c r) (Mq_md (Md_anew _ c r))
  · exact Res_thr (kk := 1) (by decide) (w213_x1 _ _ (s83n q)) (s140n q) I
theorem op_rock (I : Inv α π β n l k) (c b : Int32) (hb : b = 0 ∨ b = 1) : Res (fun hh => Run 214 0 [some (.ref (3)), some (.int (c)), some (.int (b)), some (.ref (75)), none] [] hh) (fun hh => Run 141 0 [some (.ref (70)), some (.int (c)), some (.int (b)), none] [] hh) z α π β η o od := by
  by_cases q : isCellC α 4 c
  · by_cases q2 : shipOnF α c n 0 = -1
    · refine Res_m (n := n) (l := l) (k := saveK k + 1) (w214_ok _ _ (s84 I.1 I.se I.k1 I.k4 q q2 hb)) (s141 I.1 I.2.2.1 I.k2 I.k4 q q2 hb) ?_ ?_
      · rw [up2_70, kept_5]
      · have K := Inv_kept I
        obtain ⟨m, hm, rfl⟩ := cell_J I.1 q
        rw [J_tn (by omega)]
        refine Inv_up K (Fs_up _ (by decide) _ _) (Ok_rock K.1 m hb) (Dj_4 K.2.1 (by decide)) ?_ (Mq_md (Md_up (Md_r _) _ _))
        rw [up2_at]
        exact Rm_rock K.2.2.1 K.1.n8 hm b
    · exact Res_thr (kk := 2) (by decide) (w214_x2 _ _ (s84m I.1 q q2)) (s141m I.1 I.2.2.1 q q2) I
  · exact Res_thr (kk := 1) (by decide) (w214_x1 _ _ (s84n q)) (s141n I.1 I.2.2.1 q) I
theorem op_wind (I : Inv α π β n l k) (d s : Int32) : Res (fun hh => Run 215 0 [some (.ref (3)), some (.int (d)), some (.int (s)), some (.ref (75)), none] [] hh) (fun hh => Run 142 0 [some (.ref (70)), some (.int (d)), some (.int (s)), none] [] hh) z α π β η o od := by
  by_cases q : dirC d ∧ ¬ s < 0 ∧ ¬ 3 < s
  · refine Res_m (n := n) (l := l) (k := saveK k + 1) (w215_ok _ _ (s85 I.1 I.se I.k1 I.k4 q.1 q.2)) (s142 I.1 I.2.2.1 I.k2 I.k4 q.1 q.2) ?_ ?_
    · rw [up2_70, up2_70, kept_5]
    · have K := Inv_kept I
      obtain ⟨e, he, rfl⟩ := in_J (m := 5) (by decide) q.1
      have s1 := q.2.1; have s2 := q.2.2
      have t3 : (3 : Int32).toInt = 3 := rfl
      rw [i32_lt, ti0] at s1
      rw [i32_lt, t3] at s2
      exact Inv_up K (Fs_t (Fs_up _ (by decide) _ _) (Fs_up _ (by decide) _ _)) (Ok_strength (Ok_wind K.1 he) ⟨by omega, by omega⟩) (Dj_4 (Dj_4 K.2.1 (by decide)) (by decide)) (Rm_71 (Rm_71 K.2.2.1 (by decide) _) (by decide) _) (Mq_md (Md_up (Md_up (Md_r _) _ _) _ _))
  · exact Res_thr (kk := 1) (by decide) (w215_x1 _ _ (s85n q)) (s142n q) I
end S55o
