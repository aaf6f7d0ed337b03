/-! a write keeps the sea right; moves, rounds -/
/-- v may stand in slot k of a ship -/
def vS (α : Mem) (n i k : Nat) (v : Int32) : Prop :=
  (k = 0 → v = 0 ∨ v = 1) ∧
  (k = 1 → 0 ≤ (v).toInt ∧ (v).toInt < (α 4 0).toInt * (α 4 1).toInt) ∧
  (k = 2 → ∃ e, e < 6 ∧ v = J e) ∧
  (k = 3 → 0 ≤ (v).toInt ∧ (v).toInt ≤ 60) ∧
  (k = 4 → 0 ≤ (v).toInt ∧ (v).toInt ≤ 20) ∧
  (k = 5 → 0 ≤ (v).toInt ∧ (v).toInt ≤ 12) ∧
  (k = 6 → 0 ≤ (v).toInt ∧ (v).toInt ≤ 12) ∧
  (k = 7 → 1 ≤ (v).toInt ∧ (v).toInt ≤ 60) ∧
  (k = 8 → 1 ≤ (v).toInt ∧ (v).toInt ≤ 60) ∧
  (k = 9 → 0 ≤ (v).toInt ∧ (v).toInt ≤ 9) ∧
  (k = 10 → 0 ≤ (v).toInt ∧ (v).toInt ≤ 2) ∧
  (k = 11 → 0 ≤ (v).toInt ∧ (v).toInt ≤ 2) ∧
  (k = 12 → v = -1 ∨ ∃ j, j < n ∧ j ≠ i ∧ v = J j) ∧
  (k = 13 → v = 0 ∨ v = 1) ∧
  (k = 14 → v = 0 ∨ v = 1)
theorem up2_4 (α : Mem) (i k m : Nat) (v : Int32) : up2 α (7 + i) k v 4 m = α 4 m := by rw [up2_ne α (by omega)]
theorem up2_5 (α : Mem) (i k m : Nat) (v : Int32) : up2 α (7 + i) k v 5 m = α 5 m := by rw [up2_ne α (by omega)]
theorem up2_s (α : Mem) (i k j m : Nat) (v : Int32) : up2 α (7 + i) k v (7 + j) m = if j = i ∧ m = k then v else α (7 + j) m := by
  by_cases h : j = i
  · subst h
    rw [up2_at]
    by_cases q : m = k
    · rw [if_pos ⟨rfl, q⟩, q, upd_at]
    · rw [if_neg (fun w => q w.2), upd_ne _ q]
  · rw [if_neg (fun w => h w.1), up2_ne α (by omega)]
theorem Ok.up {α : Mem} {n : Nat} (H : Ok α n) {i k : Nat} {v : Int32} (hv : vS α n i k v) : Ok (up2 α (7 + i) k v) n := by
  unfold Ok
  simp only [up2_4, up2_5]
  refine ⟨H.cols, H.rows, H.wd, H.ws, H.n8, H.hn, H.rk, ?_, ?_, ?_, ?_, ?_, ?_, ?_, ?_, ?_, ?_, ?_, ?_, ?_, ?_, ?_⟩
  · intro j hj
    rw [up2_s]
    split
    · next q => obtain ⟨rfl, q2⟩ := q; exact hv.1 q2.symm
    · exact H.side j hj
  · intro j hj
    rw [up2_s]
    split
    · next q => obtain ⟨rfl, q2⟩ := q; exact hv.2.1 q2.symm
    · exact H.cell j hj
  · intro j hj
    rw [up2_s]
    split
    · next q => obtain ⟨rfl, q2⟩ := q; exact hv.2.2.1 q2.symm
    · exact H.head j hj
  · intro j hj
    rw [up2_s]
    split
    · next q => obtain ⟨rfl, q2⟩ := q; exact hv.2.2.2.1 q2.symm
    · exact H.hull j hj
  · intro j hj
    rw [up2_s]
    split
    · next q => obtain ⟨rfl, q2⟩ := q; exact hv.2.2.2.2.1 q2.symm
    · exact H.sails j hj
  · intro j hj
    rw [up2_s]
    split
    · next q => obtain ⟨rfl, q2⟩ := q; exact hv.2.2.2.2.2.1 q2.symm
    · exact H.gl j hj
  · intro j hj
    rw [up2_s]
    split
    · next q => obtain ⟨rfl, q2⟩ := q; exact hv.2.2.2.2.2.2.1 q2.symm
    · exact H.gr j hj
  · intro j hj
    rw [up2_s]
    split
    · next q => obtain ⟨rfl, q2⟩ := q; exact hv.2.2.2.2.2.2.2.1 q2.symm
    · exact H.crew j hj
  · intro j hj
    rw [up2_s]
    split
    · next q => obtain ⟨rfl, q2⟩ := q; exact hv.2.2.2.2.2.2.2.2.1 q2.symm
    · exact H.first j hj
  · intro j hj
    rw [up2_s]
    split
    · next q => obtain ⟨rfl, q2⟩ := q; exact hv.2.2.2.2.2.2.2.2.2.1 q2.symm
    · exact H.pts j hj
  · intro j hj
    rw [up2_s]
    split
    · next q => obtain ⟨rfl, q2⟩ := q; exact hv.2.2.2.2.2.2.2.2.2.2.1 q2.symm
    · exact H.wl j hj
  · intro j hj
    rw [up2_s]
    split
    · next q => obtain ⟨rfl, q2⟩ := q; exact hv.2.2.2.2.2.2.2.2.2.2.2.1 q2.symm
    · exact H.wr j hj
  · intro j hj
    rw [up2_s]
    split
    · next q => obtain ⟨rfl, q2⟩ := q; exact hv.2.2.2.2.2.2.2.2.2.2.2.2.1 q2.symm
    · exact H.part j hj
  · intro j hj
    rw [up2_s]
    split
    · next q => obtain ⟨rfl, q2⟩ := q; exact hv.2.2.2.2.2.2.2.2.2.2.2.2.2.1 q2.symm
    · exact H.bo j hj
  · intro j hj
    rw [up2_s]
    split
    · next q => obtain ⟨rfl, q2⟩ := q; exact hv.2.2.2.2.2.2.2.2.2.2.2.2.2.2 q2.symm
    · exact H.way j hj
def wdN (α : Mem) : Nat := (α 4 2).toNatClampNeg
def hdA (α : Mem) (a : Nat) : Nat := (α a 2).toNatClampNeg
theorem Ok.wdJ {α : Mem} {n : Nat} (H : Ok α n) : wdN α < 6 ∧ α 4 2 = J (wdN α) := by
  obtain ⟨e, he, h⟩ := H.wd
  unfold wdN
  rw [h, J_tn (by omega)]
  exact ⟨he, rfl⟩
theorem Ok.hdJ {α : Mem} {n : Nat} (H : Ok α n) {i : Nat} (hi : i < n) : hdA α (7 + i) < 6 ∧ α (7 + i) 2 = J (hdA α (7 + i)) := by
  obtain ⟨e, he, h⟩ := H.head i hi
  unfold hdA
  rw [h, J_tn (by omega)]
  exact ⟨he, rfl⟩
theorem kd61 : kd 61 = 3 := by decide
theorem kd62 : kd 62 = 2 := by decide
theorem kd63 : kd 63 = 1 := by decide
theorem Ok.isC {α : Mem} {n : Nat} (H : Ok α n) {i : Nat} (hi : i < n) : isCellC α 4 (α (7 + i) 1) := by
  have h := H.cell i hi
  have hw := H.wh
  refine ⟨?_, ?_, ?_⟩
  · rw [i32_le, ti0]; omega
  · rw [i32_lt]; omega
  · rw [i32_lt, ti144]; omega
theorem cell_v {α : Mem} {n i : Nat} (H : Ok α n) {c : Int32} (hc : isCellC α 4 c) : vS α n i 1 c := by
  have h1 := hc.1; have h2 := hc.2.1; have hw := H.wh
  rw [i32_le, ti0] at h1; rw [i32_lt] at h2
  exact ⟨fun q => absurd q (by decide), fun _ => by omega, fun q => absurd q (by decide), fun q => absurd q (by decide), fun q => absurd q (by decide), fun q => absurd q (by decide), fun q => absurd q (by decide), fun q => absurd q (by decide), fun q => absurd q (by decide), fun q => absurd q (by decide), fun q => absurd q (by decide), fun q => absurd q (by decide), fun q => absurd q (by decide), fun q => absurd q (by decide), fun q => absurd q (by decide)⟩
section S27
variable {z : Zr} {α β γ : Mem} {π : Nat → Nat} {η : Int64} {o : Nat → Int64} {od : Nat → UInt64} {n : Nat}
theorem isS {i : Nat} (hi : i < 8) : isO (HC z α π β η o od) (7 + i) 7 = true := isO_HC (kd_ship hi) (show 7 ≤ 9 by omega)
theorem isO61 : isO (HC z α π β η o od) 61 3 = true := isO_HC kd61 (by decide)
theorem isO62 : isO (HC z α π β η o od) 62 2 = true := isO_HC kd62 (by decide)
theorem isO63 : isO (HC z α π β η o od) 63 1 = true := isO_HC kd63 (by decide)
theorem t57 (H : Ok α n) {a : Nat} (ha : a < 6) : Run 57 0 [some (.ref (4)), some (.int (J a))] [] (HC z α π β η o od) = some (.inl (some (.int (J (angN a (wdN α))))), (HC z α π β η o od)) := s57 ha H.wdJ.1 H.wdJ.2
theorem J3 : (3 : Int32) = J 3 := rfl
theorem ang3 {a b : Nat} (ha : a < 6) (hb : b < 6) : (J (angN a b) = 3) = (angN a b = 3) := by
  have := ang_le a ha b hb
  rw [J3, J_eq (by omega) (by omega)]
abbrev canMoveC (α : Mem) (n i : Nat) : Prop := canSailC α (7 + i) ∧ ¬ angN (hdA α (7 + i)) (wdN α) = 3 ∧ freeC α n (nbC α (α (7 + i) 1) (hdA α (7 + i)))
theorem s20 (H : Ok α n) {i : Nat} (hi : i < n) : Run 20 0 [some (.ref (61)), some (.ref (7 + i))] [] (HC z α π β η o od) = some (.inl (some (.int (bi (canMoveC α n i)))), (HC z α π β η o od)) := by
  have h8 := H.n8
  have hk := kd_ship (show i < 8 by omega)
  have hd := H.hdJ hi
  simp only [e20_0, e20_1, e20_4, e20_7, e20_8, e20_11, e20_12, e20_15, e20_18, e20_19, e20_22, e20_23, e20_26, e20_27, e20_30, e20_31, e20_34, e20_35, e20_38, e20_41, e20_44, e20_47, e20_48, e20_51, e20_52, gf3_0 kd61, isO4, isS (show i < 8 by omega), s75 hk, gf7_1 hk, gf7_2 hk, hd.2, t57 H hd.1, s53 H (H.isC hi) hd.1, s51 H, bi0, ang3 hd.1 H.wdJ.1, aft_v, aft_n, Option.bind_some, rf_some, ck_i, ck_r, ck_n, nb0, nb1, nbi, Nat.reduceAdd, if_true, if_false, not_false_eq_true, not_true_eq_false]
  by_cases h1 : canSailC α (7 + i)
  · by_cases h2 : angN (hdA α (7 + i)) (wdN α) = 3
    · rw [if_neg (fun q => q h1), if_pos h2, bi_f (fun q => q.2.1 h2)]
    · by_cases h3 : freeC α n (nbC α (α (7 + i) 1) (hdA α (7 + i)))
      · rw [if_neg (fun q => q h1), if_neg h2, if_neg (fun q => q h3), bi_t ⟨h1, h2, h3⟩]
      · rw [if_neg (fun q => q h1), if_neg h2, if_pos h3, bi_f (fun q => h3 q.2.2)]
  · rw [if_pos h1, bi_f (fun q => h1 q.1)]
def moveC (α : Mem) (i : Nat) : Mem := up2 (up2 (up2 α (7 + i) 1 (nbC α (α (7 + i) 1) (hdA α (7 + i)))) (7 + i) 9 (α (7 + i) 9 - 1)) (7 + i) 14 1
theorem s21 (H : Ok α n) {i : Nat} (hi : i < n) : Run 21 0 [some (.ref (61)), some (.ref (7 + i))] [] (HC z α π β η o od) = some (.inl none, (HC z (moveC α i) π β η o od)) := by
  have h8 := H.n8
  have hk := kd_ship (show i < 8 by omega)
  have hd := H.hdJ hi
  simp only [e21_0, e21_1, e21_2, e21_5, e21_6, e21_9, e21_10, e21_13, e21_16, e21_19, e21_20, e21_21, e21_24, e21_25, e21_26, e21_29, e21_30, e21_31, e21_34, gf3_0 kd61, isO4, gf7_1 hk, gf7_2 hk, hd.2, s53 H (H.isC hi) hd.1, pf7_1 hk, gf7_9 hk, pf7_9 hk, pf7_14 hk (Or.inr rfl), up2_rd α (7 + i) 1 9 _ (by omega), aft_v, aft_n, Option.bind_some, rf_some, ck_i, ck_r, ck_n, nb0, nb1, nbi, Nat.reduceAdd, if_true, if_false, not_false_eq_true, not_true_eq_false]
  rfl
abbrev canSwingC (α : Mem) (i : Nat) (r : Int32) : Prop := canSailC α (7 + i) ∧ (¬ α (7 + i) 14 = 0 ∨ ¬ angN (hdN (hdA α (7 + i)) r) (wdN α) = 3)
theorem s22 (H : Ok α n) {i : Nat} (hi : i < n) {r : Int32} (hr : r = 0 ∨ r = 1) : Run 22 0 [some (.ref (61)), some (.ref (7 + i)), some (.int (r))] [] (HC z α π β η o od) = some (.inl (some (.int (bi (canSwingC α i r)))), (HC z α π β η o od)) := by
  have h8 := H.n8
  have hk := kd_ship (show i < 8 by omega)
  have hd := H.hdJ hi
  simp only [e22_0, e22_1, e22_4, e22_7, e22_8, e22_11, e22_14, e22_15, e22_18, e22_19, e22_20, e22_23, e22_26, e22_27, e22_30, e22_31, e22_34, e22_35, gf3_0 kd61, isO4, isS (show i < 8 by omega), s75 hk, gf7_14 hk, t76 hk hd.1 hd.2 hr, t57 H (hdN_lt _ r), bi0, ang3 (hdN_lt _ r) H.wdJ.1, aft_v, aft_n, Option.bind_some, rf_some, ck_i, ck_r, ck_n, nb0, nb1, nbi, Nat.reduceAdd, if_true, if_false, not_false_eq_true, not_true_eq_false]
  by_cases h1 : canSailC α (7 + i)
  · by_cases h2 : α (7 + i) 14 = 0
    · by_cases h3 : angN (hdN (hdA α (7 + i)) r) (wdN α) = 3
      · rw [if_neg (fun q => q h1), if_pos h2, if_pos h3, bi_f (fun q => q.2.elim (fun w => w h2) (fun w => w h3))]
      · rw [if_neg (fun q => q h1), if_pos h2, if_neg h3, bi_t ⟨h1, Or.inr h3⟩]
    · rw [if_neg (fun q => q h1), if_neg h2, bi_t ⟨h1, Or.inl h2⟩]
  · rw [if_pos h1, bi_f (fun q => h1 q.1)]
def readyC (α : Mem) (a : Nat) : Mem := up2 (up2 (up2 α a 9 (mxC (if 0 < α a 4 then 1 else 0) (spdC α a (hdA α a) (wdN α)))) a 14 0) a 13 0
theorem s23' {a : Nat} (ha : kd a = 7) (hw : wdN α < 6 ∧ α 4 2 = J (wdN α)) (hd : hdA α a < 6 ∧ α a 2 = J (hdA α a)) : Run 23 0 [some (.ref (61)), some (.ref (a)), none] [] (HC z α π β η o od) = some (.inl none, (HC z (readyC α a) π β η o od)) := by
  unfold readyC
  simp only [e23_0, e23_1, e23_4, e23_7, e23_8, e23_11, e23_12, e23_13, e23_14, e23_15, e23_16, e23_19, e23_20, e23_21, e23_24, e23_27, e23_30, e23_33, e23_36, e23_37, e23_38, e23_41, e23_42, e23_43, e23_46, gf3_0 kd61, isO4, gf7_4 ha, gf6_2 kd4, hw.2, s60 ha hd.1 hw.1 hd.2, t210, pf7_9 ha, pf7_14 ha (Or.inl rfl), pf7_13 ha (Or.inl rfl), aft_v, aft_n, Option.bind_some, rf_some, ck_i, ck_r, ck_n, nb0, nb1, nbi, Nat.reduceAdd, if_true, if_false, not_false_eq_true, not_true_eq_false]
  by_cases h1 : 0 < α a 4 <;> simp only [h1, le_not, aft_v, aft_n, Option.bind_some, rf_some, ck_i, ck_r, ck_n, nb0, nb1, nbi, Nat.reduceAdd, if_true, if_false, not_false_eq_true, not_true_eq_false]
theorem s23 (H : Ok α n) {i : Nat} (hi : i < n) : Run 23 0 [some (.ref (61)), some (.ref (7 + i)), none] [] (HC z α π β η o od) = some (.inl none, (HC z (readyC α (7 + i)) π β η o od)) :=
  s23' (kd_ship (by have := H.n8; omega)) H.wdJ (H.hdJ hi)
abbrev driftsC (α : Mem) (n i : Nat) : Prop := 0 < α (7 + i) 3 ∧ ¬ 0 < α (7 + i) 4 ∧ α (7 + i) 12 = -1 ∧ 0 < α 4 3 ∧ freeC α n (nbC α (α (7 + i) 1) (wdN α))
def driftC (α : Mem) (i : Nat) : Mem := up2 α (7 + i) 1 (nbC α (α (7 + i) 1) (wdN α))
theorem s25 (H : Ok α n) {i : Nat} (hi : i < n) : Run 25 0 [some (.ref (61)), some (.ref (7 + i)), none] [] (HC z α π β η o od) = if driftsC α n i then some (.inl (some (.int (1))), (HC z (driftC α i) π β η o od)) else some (.inl (some (.int (0))), (HC z α π β η o od)) := by
  have h8 := H.n8
  have hk := kd_ship (show i < 8 by omega)
  have hw := H.wdJ
  by_cases h5 : freeC α n (nbC α (α (7 + i) 1) (wdN α))
  · simp only [e25_0, e25_1, e25_4, e25_7, e25_8, e25_11, e25_14, e25_15, e25_18, e25_21, e25_22, e25_23, e25_24, e25_27, e25_28, e25_31, e25_32, e25_35, e25_38, e25_41, e25_42, e25_43, e25_46, e25_49, e25_52, e25_53, e25_56, e25_57, e25_60, e25_63, e25_64, e25_65, e25_66, e25_67, e25_70, e25_71, gf3_0 kd61, isO4, isS (show i < 8 by omega), s73 hk, s74 hk, gf7_1 hk, gf7_4 hk, gf6_2 kd4, gf6_3 kd4, hw.2, s53 H (H.isC hi) hw.1, s51 H, bi_t h5, i1_0, pf7_1 hk, bi0, aft_v, aft_n, Option.bind_some, rf_some, ck_i, ck_r, ck_n, nb0, nb1, nbi, Nat.reduceAdd, if_true, if_false, not_false_eq_true, not_true_eq_false]
    unfold driftC
    by_cases h1 : 0 < α (7 + i) 3 <;> by_cases h2 : 0 < α (7 + i) 4 <;> by_cases h3 : α (7 + i) 12 = -1 <;> by_cases h4 : 0 < α 4 3 <;> simp only [driftsC, h1, h2, h3, h4, le_not, and_true, and_false, true_and, false_and, aft_v, aft_n, Option.bind_some, rf_some, ck_i, ck_r, ck_n, nb0, nb1, nbi, Nat.reduceAdd, if_true, if_false, not_false_eq_true, not_true_eq_false] <;> rw [if_pos h5]
  · simp only [e25_0, e25_1, e25_4, e25_7, e25_8, e25_11, e25_14, e25_15, e25_18, e25_21, e25_22, e25_23, e25_24, e25_27, e25_28, e25_31, e25_32, e25_35, e25_38, e25_41, e25_42, e25_43, e25_46, e25_49, e25_52, e25_53, e25_56, e25_57, e25_60, e25_63, e25_64, e25_65, e25_66, e25_67, e25_70, e25_71, gf3_0 kd61, isO4, isS (show i < 8 by omega), s73 hk, s74 hk, gf7_1 hk, gf7_4 hk, gf6_2 kd4, gf6_3 kd4, hw.2, s53 H (H.isC hi) hw.1, s51 H, bi_f h5, i1_0, pf7_1 hk, bi0, aft_v, aft_n, Option.bind_some, rf_some, ck_i, ck_r, ck_n, nb0, nb1, nbi, Nat.reduceAdd, if_true, if_false, not_false_eq_true, not_true_eq_false]
    rw [if_neg (fun q : driftsC α n i => h5 q.2.2.2.2)]
    by_cases h1 : 0 < α (7 + i) 3 <;> by_cases h2 : 0 < α (7 + i) 4 <;> by_cases h3 : α (7 + i) 12 = -1 <;> by_cases h4 : 0 < α 4 3 <;> simp only [h1, h2, h3, h4, le_not, aft_v, aft_n, Option.bind_some, rf_some, ck_i, ck_r, ck_n, nb0, nb1, nbi, Nat.reduceAdd, if_true, if_false, not_false_eq_true, not_true_eq_false]
end S27
