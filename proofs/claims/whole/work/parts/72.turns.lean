/-! one call of the law -/
theorem lg_self (x : Int64) : lg_cmp x x = 0 := by
  unfold lg_cmp
  rw [if_neg, if_pos rfl]
  exact fun w => absurd w (by simp)
theorem and31 (x : Int32) : ∃ m, m < 32 ∧ x &&& 31 = J m := by
  refine ⟨(x &&& 31).toBitVec.toNat, ?_, ?_⟩
  · have e : (x &&& 31).toBitVec = x.toBitVec &&& 31#32 := rfl
    rw [e, BitVec.toNat_and]
    have := Nat.and_le_right (n := x.toBitVec.toNat) (m := (31#32 : BitVec 32).toNat)
    have e2 : (31#32 : BitVec 32).toNat = 31 := rfl
    omega
  · apply Int32.toBitVec_inj.mp
    show (x &&& 31).toBitVec = BitVec.ofNat 32 (x &&& 31).toBitVec.toNat
    rw [BitVec.ofNat_toNat]
    simp
section S72
variable {z : Zr} {α β γ : Mem} {π : Nat → Nat} {η : Int64} {o : Nat → Int64} {od : Nat → UInt64} {n l k t : Nat} {u6 u7 u8 : Option Value}
theorem gx {z' : Zr} (hz : z'.2.2 = z.2.2) {j : Nat} (hj : j < z.2.2.1) (hL : z.2.2.1 ≤ 3584) : gaI (HC z' α π β η o od) 0 (J j) = some (z.2.2.2 j) := by
  rw [gaI0 (by rw [hz]; exact inB_J hj (by omega)), J_tn (by omega), hz]
theorem z_eq {z z' : Zr} (h : z' = z ∨ z' = zb z) : z'.2.2 = z.2.2 := by rcases h with rfl | rfl <;> rfl
theorem Ja1 (a : Nat) : J a + 1 = J (a + 1) := J_add a 1
theorem Ja2 (a : Nat) : J a + 2 = J (a + 2) := J_add a 2
theorem Ja3 (a : Nat) : J a + 3 = J (a + 3) := J_add a 3
theorem Ja4 (a : Nat) : J a + 4 = J (a + 4) := J_add a 4
theorem Ja5 (a : Nat) : J a + 5 = J (a + 5) := J_add a 5
theorem Ja6 (a : Nat) : J a + 6 = J (a + 6) := J_add a 6
theorem Ja7 (a : Nat) : J a + 7 = J (a + 7) := J_add a 7
/-- one turn of the law's loop: on it goes, and the invariant holds -/
def Turn (z : Zr) (α : Mem) (π : Nat → Nat) (β : Mem) (η : Int64) (o : Nat → Int64) (od : Nat → UInt64) (t : Nat) (u6 u7 u8 : Option Value) : Prop :=
  ∃ (z' : Zr) (α' : Mem) (π' : Nat → Nat) (β' : Mem) (η' : Int64) (o' : Nat → Int64) (od' : Nat → UInt64) (n l k : Nat) (v6 v7 v8 : Option Value), Run 236 28 [some (.ref (0)), some (.ref (3)), some (.ref (70)), some (.ref (75)), some (.ref (76)), some (.int (J (7 * t))), u6, u7, u8] [] (HC z α π β η o od) = Run 236 28 [some (.ref 0), some (.ref 3), some (.ref 70), some (.ref 75), some (.ref 76), some (.int (J (7 * t + 7))), v6, v7, v8] [] (HC z' α' π' β' η' o' od') ∧ Inv α' π' β' n l k ∧ (z' = z ∨ z' = zb z)
theorem law_le (ht : 7 * t + 7 ≤ z.2.2.1) (hL : z.2.2.1 ≤ 3584) : (J z.2.2.1 - 7 < J (7 * t)) = False := by
  refine eq_false ?_
  have t7 : (7 : Int32).toInt = 7 := rfl
  rw [i32_lt, sub_ti (by rw [J_ti (by omega), t7]; omega) (by rw [J_ti (by omega), t7]; omega), J_ti (by omega), J_ti (by omega), t7]
  omega
theorem st_0 (ht : 7 * t + 7 ≤ z.2.2.1) (hL : z.2.2.1 ≤ 3584) (hv : z.2.2.2 (7 * t) &&& 31 = J 0) : Run 236 28 [some (.ref (0)), some (.ref (3)), some (.ref (70)), some (.ref (75)), some (.ref (76)), some (.int (J (7 * t))), u6, u7, u8] [] (HC z α π β η o od) = Run 236 168 [some (.ref (0)), some (.ref (3)), some (.ref (70)), some (.ref (75)), some (.ref (76)), some (.int (J (7 * t))), u6, u7, u8] [] (HC z α π β η o od) := by
  rw [e236_28]
  have hv' : z.2.2.2 (7 * t) &&& 31 = (0 : Int32) := hv
  simp only [↓reduceIte, e236_30, e236_31, e236_32, e236_34, e236_35, e236_38, e236_39, e236_41, e236_42, e236_44, alen0, law_le ht hL, gx rfl (show 7 * t < z.2.2.1 by omega) hL, hv', e236_45_0, aft_v, aft_n, Option.bind_some, rf_some, ck_i, ck_r, ck_n, nb0, nb1, nbi, Nat.reduceAdd, if_true, if_false, not_false_eq_true, not_true_eq_false]
theorem st_1 (ht : 7 * t + 7 ≤ z.2.2.1) (hL : z.2.2.1 ≤ 3584) (hv : z.2.2.2 (7 * t) &&& 31 = J 1) : Run 236 28 [some (.ref (0)), some (.ref (3)), some (.ref (70)), some (.ref (75)), some (.ref (76)), some (.int (J (7 * t))), u6, u7, u8] [] (HC z α π β η o od) = Run 236 236 [some (.ref (0)), some (.ref (3)), some (.ref (70)), some (.ref (75)), some (.ref (76)), some (.int (J (7 * t))), u6, u7, u8] [] (HC z α π β η o od) := by
  rw [e236_28]
  have hv' : z.2.2.2 (7 * t) &&& 31 = (1 : Int32) := hv
  simp only [↓reduceIte, e236_30, e236_31, e236_32, e236_34, e236_35, e236_38, e236_39, e236_41, e236_42, e236_44, alen0, law_le ht hL, gx rfl (show 7 * t < z.2.2.1 by omega) hL, hv', e236_45_1, aft_v, aft_n, Option.bind_some, rf_some, ck_i, ck_r, ck_n, nb0, nb1, nbi, Nat.reduceAdd, if_true, if_false, not_false_eq_true, not_true_eq_false]
theorem st_2 (ht : 7 * t + 7 ≤ z.2.2.1) (hL : z.2.2.1 ≤ 3584) (hv : z.2.2.2 (7 * t) &&& 31 = J 2) : Run 236 28 [some (.ref (0)), some (.ref (3)), some (.ref (70)), some (.ref (75)), some (.ref (76)), some (.int (J (7 * t))), u6, u7, u8] [] (HC z α π β η o od) = Run 236 320 [some (.ref (0)), some (.ref (3)), some (.ref (70)), some (.ref (75)), some (.ref (76)), some (.int (J (7 * t))), u6, u7, u8] [] (HC z α π β η o od) := by
  rw [e236_28]
  have hv' : z.2.2.2 (7 * t) &&& 31 = (2 : Int32) := hv
  simp only [↓reduceIte, e236_30, e236_31, e236_32, e236_34, e236_35, e236_38, e236_39, e236_41, e236_42, e236_44, alen0, law_le ht hL, gx rfl (show 7 * t < z.2.2.1 by omega) hL, hv', e236_45_2, aft_v, aft_n, Option.bind_some, rf_some, ck_i, ck_r, ck_n, nb0, nb1, nbi, Nat.reduceAdd, if_true, if_false, not_false_eq_true, not_true_eq_false]
theorem st_3 (ht : 7 * t + 7 ≤ z.2.2.1) (hL : z.2.2.1 ≤ 3584) (hv : z.2.2.2 (7 * t) &&& 31 = J 3) : Run 236 28 [some (.ref (0)), some (.ref (3)), some (.ref (70)), some (.ref (75)), some (.ref (76)), some (.int (J (7 * t))), u6, u7, u8] [] (HC z α π β η o od) = Run 236 388 [some (.ref (0)), some (.ref (3)), some (.ref (70)), some (.ref (75)), some (.ref (76)), some (.int (J (7 * t))), u6, u7, u8] [] (HC z α π β η o od) := by
  rw [e236_28]
  have hv' : z.2.2.2 (7 * t) &&& 31 = (3 : Int32) := hv
  simp only [↓reduceIte, e236_30, e236_31, e236_32, e236_34, e236_35, e236_38, e236_39, e236_41, e236_42, e236_44, alen0, law_le ht hL, gx rfl (show 7 * t < z.2.2.1 by omega) hL, hv', e236_45_3, aft_v, aft_n, Option.bind_some, rf_some, ck_i, ck_r, ck_n, nb0, nb1, nbi, Nat.reduceAdd, if_true, if_false, not_false_eq_true, not_true_eq_false]
theorem st_4 (ht : 7 * t + 7 ≤ z.2.2.1) (hL : z.2.2.1 ≤ 3584) (hv : z.2.2.2 (7 * t) &&& 31 = J 4) : Run 236 28 [some (.ref (0)), some (.ref (3)), some (.ref (70)), some (.ref (75)), some (.ref (76)), some (.int (J (7 * t))), u6, u7, u8] [] (HC z α π β η o od) = Run 236 506 [some (.ref (0)), some (.ref (3)), some (.ref (70)), some (.ref (75)), some (.ref (76)), some (.int (J (7 * t))), u6, u7, u8] [] (HC z α π β η o od) := by
  rw [e236_28]
  have hv' : z.2.2.2 (7 * t) &&& 31 = (4 : Int32) := hv
  simp only [↓reduceIte, e236_30, e236_31, e236_32, e236_34, e236_35, e236_38, e236_39, e236_41, e236_42, e236_44, alen0, law_le ht hL, gx rfl (show 7 * t < z.2.2.1 by omega) hL, hv', e236_45_4, aft_v, aft_n, Option.bind_some, rf_some, ck_i, ck_r, ck_n, nb0, nb1, nbi, Nat.reduceAdd, if_true, if_false, not_false_eq_true, not_true_eq_false]
theorem st_5 (ht : 7 * t + 7 ≤ z.2.2.1) (hL : z.2.2.1 ≤ 3584) (hv : z.2.2.2 (7 * t) &&& 31 = J 5) : Run 236 28 [some (.ref (0)), some (.ref (3)), some (.ref (70)), some (.ref (75)), some (.ref (76)), some (.int (J (7 * t))), u6, u7, u8] [] (HC z α π β η o od) = Run 236 562 [some (.ref (0)), some (.ref (3)), some (.ref (70)), some (.ref (75)), some (.ref (76)), some (.int (J (7 * t))), u6, u7, u8] [] (HC z α π β η o od) := by
  rw [e236_28]
  have hv' : z.2.2.2 (7 * t) &&& 31 = (5 : Int32) := hv
  simp only [↓reduceIte, e236_30, e236_31, e236_32, e236_34, e236_35, e236_38, e236_39, e236_41, e236_42, e236_44, alen0, law_le ht hL, gx rfl (show 7 * t < z.2.2.1 by omega) hL, hv', e236_45_5, aft_v, aft_n, Option.bind_some, rf_some, ck_i, ck_r, ck_n, nb0, nb1, nbi, Nat.reduceAdd, if_true, if_false, not_false_eq_true, not_true_eq_false]
theorem st_6 (ht : 7 * t + 7 ≤ z.2.2.1) (hL : z.2.2.1 ≤ 3584) (hv : z.2.2.2 (7 * t) &&& 31 = J 6) : Run 236 28 [some (.ref (0)), some (.ref (3)), some (.ref (70)), some (.ref (75)), some (.ref (76)), some (.int (J (7 * t))), u6, u7, u8] [] (HC z α π β η o od) = Run 236 630 [some (.ref (0)), some (.ref (3)), some (.ref (70)), some (.ref (75)), some (.ref (76)), some (.int (J (7 * t))), u6, u7, u8] [] (HC z α π β η o od) := by
  rw [e236_28]
  have hv' : z.2.2.2 (7 * t) &&& 31 = (6 : Int32) := hv
  simp only [↓reduceIte, e236_30, e236_31, e236_32, e236_34, e236_35, e236_38, e236_39, e236_41, e236_42, e236_44, alen0, law_le ht hL, gx rfl (show 7 * t < z.2.2.1 by omega) hL, hv', e236_45_6, aft_v, aft_n, Option.bind_some, rf_some, ck_i, ck_r, ck_n, nb0, nb1, nbi, Nat.reduceAdd, if_true, if_false, not_false_eq_true, not_true_eq_false]
theorem st_7 (ht : 7 * t + 7 ≤ z.2.2.1) (hL : z.2.2.1 ≤ 3584) (hv : z.2.2.2 (7 * t) &&& 31 = J 7) : Run 236 28 [some (.ref (0)), some (.ref (3)), some (.ref (70)), some (.ref (75)), some (.ref (76)), some (.int (J (7 * t))), u6, u7, u8] [] (HC z α π β η o od) = Run 236 686 [some (.ref (0)), some (.ref (3)), some (.ref (70)), some (.ref (75)), some (.ref (76)), some (.int (J (7 * t))), u6, u7, u8] [] (HC z α π β η o od) := by
  rw [e236_28]
  have hv' : z.2.2.2 (7 * t) &&& 31 = (7 : Int32) := hv
  simp only [↓reduceIte, e236_30, e236_31, e236_32, e236_34, e236_35, e236_38, e236_39, e236_41, e236_42, e236_44, alen0, law_le ht hL, gx rfl (show 7 * t < z.2.2.1 by omega) hL, hv', e236_45_7, aft_v, aft_n, Option.bind_some, rf_some, ck_i, ck_r, ck_n, nb0, nb1, nbi, Nat.reduceAdd, if_true, if_false, not_false_eq_true, not_true_eq_false]
theorem st_8 (ht : 7 * t + 7 ≤ z.2.2.1) (hL : z.2.2.1 ≤ 3584) (hv : z.2.2.2 (7 * t) &&& 31 = J 8) : Run 236 28 [some (.ref (0)), some (.ref (3)), some (.ref (70)), some (.ref (75)), some (.ref (76)), some (.int (J (7 * t))), u6, u7, u8] [] (HC z α π β η o od) = Run 236 754 [some (.ref (0)), some (.ref (3)), some (.ref (70)), some (.ref (75)), some (.ref (76)), some (.int (J (7 * t))), u6, u7, u8] [] (HC z α π β η o od) := by
  rw [e236_28]
  have hv' : z.2.2.2 (7 * t) &&& 31 = (8 : Int32) := hv
  simp only [↓reduceIte, e236_30, e236_31, e236_32, e236_34, e236_35, e236_38, e236_39, e236_41, e236_42, e236_44, alen0, law_le ht hL, gx rfl (show 7 * t < z.2.2.1 by omega) hL, hv', e236_45_8, aft_v, aft_n, Option.bind_some, rf_some, ck_i, ck_r, ck_n, nb0, nb1, nbi, Nat.reduceAdd, if_true, if_false, not_false_eq_true, not_true_eq_false]
theorem st_9 (ht : 7 * t + 7 ≤ z.2.2.1) (hL : z.2.2.1 ≤ 3584) (hv : z.2.2.2 (7 * t) &&& 31 = J 9) : Run 236 28 [some (.ref (0)), some (.ref (3)), some (.ref (70)), some (.ref (75)), some (.ref (76)), some (.int (J (7 * t))), u6, u7, u8] [] (HC z α π β η o od) = Run 236 822 [some (.ref (0)), some (.ref (3)), some (.ref (70)), some (.ref (75)), some (.ref (76)), some (.int (J (7 * t))), u6, u7, u8] [] (HC z α π β η o od) := by
  rw [e236_28]
  have hv' : z.2.2.2 (7 * t) &&& 31 = (9 : Int32) := hv
  simp only [↓reduceIte, e236_30, e236_31, e236_32, e236_34, e236_35, e236_38, e236_39, e236_41, e236_42, e236_44, alen0, law_le ht hL, gx rfl (show 7 * t < z.2.2.1 by omega) hL, hv', e236_45_9, aft_v, aft_n, Option.bind_some, rf_some, ck_i, ck_r, ck_n, nb0, nb1, nbi, Nat.reduceAdd, if_true, if_false, not_false_eq_true, not_true_eq_false]
theorem st_10 (ht : 7 * t + 7 ≤ z.2.2.1) (hL : z.2.2.1 ≤ 3584) (hv : z.2.2.2 (7 * t) &&& 31 = J 10) : Run 236 28 [some (.ref (0)), some (.ref (3)), some (.ref (70)), some (.ref (75)), some (.ref (76)), some (.int (J (7 * t))), u6, u7, u8] [] (HC z α π β η o od) = Run 236 878 [some (.ref (0)), some (.ref (3)), some (.ref (70)), some (.ref (75)), some (.ref (76)), some (.int (J (7 * t))), u6, u7, u8] [] (HC z α π β η o od) := by
  rw [e236_28]
  have hv' : z.2.2.2 (7 * t) &&& 31 = (10 : Int32) := hv
  simp only [↓reduceIte, e236_30, e236_31, e236_32, e236_34, e236_35, e236_38, e236_39, e236_41, e236_42, e236_44, alen0, law_le ht hL, gx rfl (show 7 * t < z.2.2.1 by omega) hL, hv', e236_45_10, aft_v, aft_n, Option.bind_some, rf_some, ck_i, ck_r, ck_n, nb0, nb1, nbi, Nat.reduceAdd, if_true, if_false, not_false_eq_true, not_true_eq_false]
theorem st_11 (ht : 7 * t + 7 ≤ z.2.2.1) (hL : z.2.2.1 ≤ 3584) (hv : z.2.2.2 (7 * t) &&& 31 = J 11) : Run 236 28 [some (.ref (0)), some (.ref (3)), some (.ref (70)), some (.ref (75)), some (.ref (76)), some (.int (J (7 * t))), u6, u7, u8] [] (HC z α π β η o od) = Run 236 962 [some (.ref (0)), some (.ref (3)), some (.ref (70)), some (.ref (75)), some (.ref (76)), some (.int (J (7 * t))), u6, u7, u8] [] (HC z α π β η o od) := by
  rw [e236_28]
  have hv' : z.2.2.2 (7 * t) &&& 31 = (11 : Int32) := hv
  simp only [↓reduceIte, e236_30, e236_31, e236_32, e236_34, e236_35, e236_38, e236_39, e236_41, e236_42, e236_44, alen0, law_le ht hL, gx rfl (show 7 * t < z.2.2.1 by omega) hL, hv', e236_45_11, aft_v, aft_n, Option.bind_some, rf_some, ck_i, ck_r, ck_n, nb0, nb1, nbi, Nat.reduceAdd, if_true, if_false, not_false_eq_true, not_true_eq_false]
theorem st_12 (ht : 7 * t + 7 ≤ z.2.2.1) (hL : z.2.2.1 ≤ 3584) (hv : z.2.2.2 (7 * t) &&& 31 = J 12) : Run 236 28 [some (.ref (0)), some (.ref (3)), some (.ref (70)), some (.ref (75)), some (.ref (76)), some (.int (J (7 * t))), u6, u7, u8] [] (HC z α π β η o od) = Run 236 975 [some (.ref (0)), some (.ref (3)), some (.ref (70)), some (.ref (75)), some (.ref (76)), some (.int (J (7 * t))), u6, u7, u8] [] (HC z α π β η o od) := by
  rw [e236_28]
  have hv' : z.2.2.2 (7 * t) &&& 31 = (12 : Int32) := hv
  simp only [↓reduceIte, e236_30, e236_31, e236_32, e236_34, e236_35, e236_38, e236_39, e236_41, e236_42, e236_44, alen0, law_le ht hL, gx rfl (show 7 * t < z.2.2.1 by omega) hL, hv', e236_45_12, aft_v, aft_n, Option.bind_some, rf_some, ck_i, ck_r, ck_n, nb0, nb1, nbi, Nat.reduceAdd, if_true, if_false, not_false_eq_true, not_true_eq_false]
theorem st_13 (ht : 7 * t + 7 ≤ z.2.2.1) (hL : z.2.2.1 ≤ 3584) (hv : z.2.2.2 (7 * t) &&& 31 = J 13) : Run 236 28 [some (.ref (0)), some (.ref (3)), some (.ref (70)), some (.ref (75)), some (.ref (76)), some (.int (J (7 * t))), u6, u7, u8] [] (HC z α π β η o od) = Run 236 1071 [some (.ref (0)), some (.ref (3)), some (.ref (70)), some (.ref (75)), some (.ref (76)), some (.int (J (7 * t))), u6, u7, u8] [] (HC z α π β η o od) := by
  rw [e236_28]
  have hv' : z.2.2.2 (7 * t) &&& 31 = (13 : Int32) := hv
  simp only [↓reduceIte, e236_30, e236_31, e236_32, e236_34, e236_35, e236_38, e236_39, e236_41, e236_42, e236_44, alen0, law_le ht hL, gx rfl (show 7 * t < z.2.2.1 by omega) hL, hv', e236_45_13, aft_v, aft_n, Option.bind_some, rf_some, ck_i, ck_r, ck_n, nb0, nb1, nbi, Nat.reduceAdd, if_true, if_false, not_false_eq_true, not_true_eq_false]
theorem st_14 (ht : 7 * t + 7 ≤ z.2.2.1) (hL : z.2.2.1 ≤ 3584) (hv : z.2.2.2 (7 * t) &&& 31 = J 14) : Run 236 28 [some (.ref (0)), some (.ref (3)), some (.ref (70)), some (.ref (75)), some (.ref (76)), some (.int (J (7 * t))), u6, u7, u8] [] (HC z α π β η o od) = Run 236 1179 [some (.ref (0)), some (.ref (3)), some (.ref (70)), some (.ref (75)), some (.ref (76)), some (.int (J (7 * t))), u6, u7, u8] [] (HC z α π β η o od) := by
  rw [e236_28]
  have hv' : z.2.2.2 (7 * t) &&& 31 = (14 : Int32) := hv
  simp only [↓reduceIte, e236_30, e236_31, e236_32, e236_34, e236_35, e236_38, e236_39, e236_41, e236_42, e236_44, alen0, law_le ht hL, gx rfl (show 7 * t < z.2.2.1 by omega) hL, hv', e236_45_14, aft_v, aft_n, Option.bind_some, rf_some, ck_i, ck_r, ck_n, nb0, nb1, nbi, Nat.reduceAdd, if_true, if_false, not_false_eq_true, not_true_eq_false]
theorem st_15 (ht : 7 * t + 7 ≤ z.2.2.1) (hL : z.2.2.1 ≤ 3584) (hv : z.2.2.2 (7 * t) &&& 31 = J 15) : Run 236 28 [some (.ref (0)), some (.ref (3)), some (.ref (70)), some (.ref (75)), some (.ref (76)), some (.int (J (7 * t))), u6, u7, u8] [] (HC z α π β η o od) = Run 236 1247 [some (.ref (0)), some (.ref (3)), some (.ref (70)), some (.ref (75)), some (.ref (76)), some (.int (J (7 * t))), u6, u7, u8] [] (HC z α π β η o od) := by
  rw [e236_28]
  have hv' : z.2.2.2 (7 * t) &&& 31 = (15 : Int32) := hv
  simp only [↓reduceIte, e236_30, e236_31, e236_32, e236_34, e236_35, e236_38, e236_39, e236_41, e236_42, e236_44, alen0, law_le ht hL, gx rfl (show 7 * t < z.2.2.1 by omega) hL, hv', e236_45_15, aft_v, aft_n, Option.bind_some, rf_some, ck_i, ck_r, ck_n, nb0, nb1, nbi, Nat.reduceAdd, if_true, if_false, not_false_eq_true, not_true_eq_false]
theorem st_16 (ht : 7 * t + 7 ≤ z.2.2.1) (hL : z.2.2.1 ≤ 3584) (hv : z.2.2.2 (7 * t) &&& 31 = J 16) : Run 236 28 [some (.ref (0)), some (.ref (3)), some (.ref (70)), some (.ref (75)), some (.ref (76)), some (.int (J (7 * t))), u6, u7, u8] [] (HC z α π β η o od) = Run 236 1303 [some (.ref (0)), some (.ref (3)), some (.ref (70)), some (.ref (75)), some (.ref (76)), some (.int (J (7 * t))), u6, u7, u8] [] (HC z α π β η o od) := by
  rw [e236_28]
  have hv' : z.2.2.2 (7 * t) &&& 31 = (16 : Int32) := hv
  simp only [↓reduceIte, e236_30, e236_31, e236_32, e236_34, e236_35, e236_38, e236_39, e236_41, e236_42, e236_44, alen0, law_le ht hL, gx rfl (show 7 * t < z.2.2.1 by omega) hL, hv', e236_45_16, aft_v, aft_n, Option.bind_some, rf_some, ck_i, ck_r, ck_n, nb0, nb1, nbi, Nat.reduceAdd, if_true, if_false, not_false_eq_true, not_true_eq_false]
theorem st_17 (ht : 7 * t + 7 ≤ z.2.2.1) (hL : z.2.2.1 ≤ 3584) (hv : z.2.2.2 (7 * t) &&& 31 = J 17) : Run 236 28 [some (.ref (0)), some (.ref (3)), some (.ref (70)), some (.ref (75)), some (.ref (76)), some (.int (J (7 * t))), u6, u7, u8] [] (HC z α π β η o od) = Run 236 1359 [some (.ref (0)), some (.ref (3)), some (.ref (70)), some (.ref (75)), some (.ref (76)), some (.int (J (7 * t))), u6, u7, u8] [] (HC z α π β η o od) := by
  rw [e236_28]
  have hv' : z.2.2.2 (7 * t) &&& 31 = (17 : Int32) := hv
  simp only [↓reduceIte, e236_30, e236_31, e236_32, e236_34, e236_35, e236_38, e236_39, e236_41, e236_42, e236_44, alen0, law_le ht hL, gx rfl (show 7 * t < z.2.2.1 by omega) hL, hv', e236_45_17, aft_v, aft_n, Option.bind_some, rf_some, ck_i, ck_r, ck_n, nb0, nb1, nbi, Nat.reduceAdd, if_true, if_false, not_false_eq_true, not_true_eq_false]
theorem st_18 (ht : 7 * t + 7 ≤ z.2.2.1) (hL : z.2.2.1 ≤ 3584) (hv : z.2.2.2 (7 * t) &&& 31 = J 18) : Run 236 28 [some (.ref (0)), some (.ref (3)), some (.ref (70)), some (.ref (75)), some (.ref (76)), some (.int (J (7 * t))), u6, u7, u8] [] (HC z α π β η o od) = Run 236 1415 [some (.ref (0)), some (.ref (3)), some (.ref (70)), some (.ref (75)), some (.ref (76)), some (.int (J (7 * t))), u6, u7, u8] [] (HC z α π β η o od) := by
  rw [e236_28]
  have hv' : z.2.2.2 (7 * t) &&& 31 = (18 : Int32) := hv
  simp only [↓reduceIte, e236_30, e236_31, e236_32, e236_34, e236_35, e236_38, e236_39, e236_41, e236_42, e236_44, alen0, law_le ht hL, gx rfl (show 7 * t < z.2.2.1 by omega) hL, hv', e236_45_18, aft_v, aft_n, Option.bind_some, rf_some, ck_i, ck_r, ck_n, nb0, nb1, nbi, Nat.reduceAdd, if_true, if_false, not_false_eq_true, not_true_eq_false]
theorem st_19 (ht : 7 * t + 7 ≤ z.2.2.1) (hL : z.2.2.1 ≤ 3584) (hv : z.2.2.2 (7 * t) &&& 31 = J 19) : Run 236 28 [some (.ref (0)), some (.ref (3)), some (.ref (70)), some (.ref (75)), some (.ref (76)), some (.int (J (7 * t))), u6, u7, u8] [] (HC z α π β η o od) = Run 236 1483 [some (.ref (0)), some (.ref (3)), some (.ref (70)), some (.ref (75)), some (.ref (76)), some (.int (J (7 * t))), u6, u7, u8] [] (HC z α π β η o od) := by
  rw [e236_28]
  have hv' : z.2.2.2 (7 * t) &&& 31 = (19 : Int32) := hv
  simp only [↓reduceIte, e236_30, e236_31, e236_32, e236_34, e236_35, e236_38, e236_39, e236_41, e236_42, e236_44, alen0, law_le ht hL, gx rfl (show 7 * t < z.2.2.1 by omega) hL, hv', e236_45_19, aft_v, aft_n, Option.bind_some, rf_some, ck_i, ck_r, ck_n, nb0, nb1, nbi, Nat.reduceAdd, if_true, if_false, not_false_eq_true, not_true_eq_false]
theorem st_20 (ht : 7 * t + 7 ≤ z.2.2.1) (hL : z.2.2.1 ≤ 3584) (hv : z.2.2.2 (7 * t) &&& 31 = J 20) : Run 236 28 [some (.ref (0)), some (.ref (3)), some (.ref (70)), some (.ref (75)), some (.ref (76)), some (.int (J (7 * t))), u6, u7, u8] [] (HC z α π β η o od) = Run 236 1539 [some (.ref (0)), some (.ref (3)), some (.ref (70)), some (.ref (75)), some (.ref (76)), some (.int (J (7 * t))), u6, u7, u8] [] (HC z α π β η o od) := by
  rw [e236_28]
  have hv' : z.2.2.2 (7 * t) &&& 31 = (20 : Int32) := hv
  simp only [↓reduceIte, e236_30, e236_31, e236_32, e236_34, e236_35, e236_38, e236_39, e236_41, e236_42, e236_44, alen0, law_le ht hL, gx rfl (show 7 * t < z.2.2.1 by omega) hL, hv', e236_45_20, aft_v, aft_n, Option.bind_some, rf_some, ck_i, ck_r, ck_n, nb0, nb1, nbi, Nat.reduceAdd, if_true, if_false, not_false_eq_true, not_true_eq_false]
theorem st_21 (ht : 7 * t + 7 ≤ z.2.2.1) (hL : z.2.2.1 ≤ 3584) (hv : z.2.2.2 (7 * t) &&& 31 = J 21) : Run 236 28 [some (.ref (0)), some (.ref (3)), some (.ref (70)), some (.ref (75)), some (.ref (76)), some (.int (J (7 * t))), u6, u7, u8] [] (HC z α π β η o od) = Run 236 1595 [some (.ref (0)), some (.ref (3)), some (.ref (70)), some (.ref (75)), some (.ref (76)), some (.int (J (7 * t))), u6, u7, u8] [] (HC z α π β η o od) := by
  rw [e236_28]
  have hv' : z.2.2.2 (7 * t) &&& 31 = (21 : Int32) := hv
  simp only [↓reduceIte, e236_30, e236_31, e236_32, e236_34, e236_35, e236_38, e236_39, e236_41, e236_42, e236_44, alen0, law_le ht hL, gx rfl (show 7 * t < z.2.2.1 by omega) hL, hv', e236_45_21, aft_v, aft_n, Option.bind_some, rf_some, ck_i, ck_r, ck_n, nb0, nb1, nbi, Nat.reduceAdd, if_true, if_false, not_false_eq_true, not_true_eq_false]
theorem st_22 (ht : 7 * t + 7 ≤ z.2.2.1) (hL : z.2.2.1 ≤ 3584) (hv : z.2.2.2 (7 * t) &&& 31 = J 22) : Run 236 28 [some (.ref (0)), some (.ref (3)), some (.ref (70)), some (.ref (75)), some (.ref (76)), some (.int (J (7 * t))), u6, u7, u8] [] (HC z α π β η o od) = Run 236 1672 [some (.ref (0)), some (.ref (3)), some (.ref (70)), some (.ref (75)), some (.ref (76)), some (.int (J (7 * t))), u6, u7, u8] [] (HC z α π β η o od) := by
  rw [e236_28]
  have hv' : z.2.2.2 (7 * t) &&& 31 = (22 : Int32) := hv
  simp only [↓reduceIte, e236_30, e236_31, e236_32, e236_34, e236_35, e236_38, e236_39, e236_41, e236_42, e236_44, alen0, law_le ht hL, gx rfl (show 7 * t < z.2.2.1 by omega) hL, hv', e236_45_22, aft_v, aft_n, Option.bind_some, rf_some, ck_i, ck_r, ck_n, nb0, nb1, nbi, Nat.reduceAdd, if_true, if_false, not_false_eq_true, not_true_eq_false]
theorem st_23 (ht : 7 * t + 7 ≤ z.2.2.1) (hL : z.2.2.1 ≤ 3584) (hv : z.2.2.2 (7 * t) &&& 31 = J 23) : Run 236 28 [some (.ref (0)), some (.ref (3)), some (.ref (70)), some (.ref (75)), some (.ref (76)), some (.int (J (7 * t))), u6, u7, u8] [] (HC z α π β η o od) = Run 236 1728 [some (.ref (0)), some (.ref (3)), some (.ref (70)), some (.ref (75)), some (.ref (76)), some (.int (J (7 * t))), u6, u7, u8] [] (HC z α π β η o od) := by
  rw [e236_28]
  have hv' : z.2.2.2 (7 * t) &&& 31 = (23 : Int32) := hv
  simp only [↓reduceIte, e236_30, e236_31, e236_32, e236_34, e236_35, e236_38, e236_39, e236_41, e236_42, e236_44, alen0, law_le ht hL, gx rfl (show 7 * t < z.2.2.1 by omega) hL, hv', e236_45_23, aft_v, aft_n, Option.bind_some, rf_some, ck_i, ck_r, ck_n, nb0, nb1, nbi, Nat.reduceAdd, if_true, if_false, not_false_eq_true, not_true_eq_false]
theorem st_24 (ht : 7 * t + 7 ≤ z.2.2.1) (hL : z.2.2.1 ≤ 3584) (hv : z.2.2.2 (7 * t) &&& 31 = J 24) : Run 236 28 [some (.ref (0)), some (.ref (3)), some (.ref (70)), some (.ref (75)), some (.ref (76)), some (.int (J (7 * t))), u6, u7, u8] [] (HC z α π β η o od) = Run 236 1741 [some (.ref (0)), some (.ref (3)), some (.ref (70)), some (.ref (75)), some (.ref (76)), some (.int (J (7 * t))), u6, u7, u8] [] (HC z α π β η o od) := by
  rw [e236_28]
  have hv' : z.2.2.2 (7 * t) &&& 31 = (24 : Int32) := hv
  simp only [↓reduceIte, e236_30, e236_31, e236_32, e236_34, e236_35, e236_38, e236_39, e236_41, e236_42, e236_44, alen0, law_le ht hL, gx rfl (show 7 * t < z.2.2.1 by omega) hL, hv', e236_45_24, aft_v, aft_n, Option.bind_some, rf_some, ck_i, ck_r, ck_n, nb0, nb1, nbi, Nat.reduceAdd, if_true, if_false, not_false_eq_true, not_true_eq_false]
theorem st_25 (ht : 7 * t + 7 ≤ z.2.2.1) (hL : z.2.2.1 ≤ 3584) (hv : z.2.2.2 (7 * t) &&& 31 = J 25) : Run 236 28 [some (.ref (0)), some (.ref (3)), some (.ref (70)), some (.ref (75)), some (.ref (76)), some (.int (J (7 * t))), u6, u7, u8] [] (HC z α π β η o od) = Run 236 1754 [some (.ref (0)), some (.ref (3)), some (.ref (70)), some (.ref (75)), some (.ref (76)), some (.int (J (7 * t))), u6, u7, u8] [] (HC z α π β η o od) := by
  rw [e236_28]
  have hv' : z.2.2.2 (7 * t) &&& 31 = (25 : Int32) := hv
  simp only [↓reduceIte, e236_30, e236_31, e236_32, e236_34, e236_35, e236_38, e236_39, e236_41, e236_42, e236_44, alen0, law_le ht hL, gx rfl (show 7 * t < z.2.2.1 by omega) hL, hv', e236_45_25, aft_v, aft_n, Option.bind_some, rf_some, ck_i, ck_r, ck_n, nb0, nb1, nbi, Nat.reduceAdd, if_true, if_false, not_false_eq_true, not_true_eq_false]
theorem st_26 (ht : 7 * t + 7 ≤ z.2.2.1) (hL : z.2.2.1 ≤ 3584) (hv : z.2.2.2 (7 * t) &&& 31 = J 26) : Run 236 28 [some (.ref (0)), some (.ref (3)), some (.ref (70)), some (.ref (75)), some (.ref (76)), some (.int (J (7 * t))), u6, u7, u8] [] (HC z α π β η o od) = Run 236 1798 [some (.ref (0)), some (.ref (3)), some (.ref (70)), some (.ref (75)), some (.ref (76)), some (.int (J (7 * t))), u6, u7, u8] [] (HC z α π β η o od) := by
  rw [e236_28]
  have hv' : z.2.2.2 (7 * t) &&& 31 = (26 : Int32) := hv
  simp only [↓reduceIte, e236_30, e236_31, e236_32, e236_34, e236_35, e236_38, e236_39, e236_41, e236_42, e236_44, alen0, law_le ht hL, gx rfl (show 7 * t < z.2.2.1 by omega) hL, hv', e236_45_26, aft_v, aft_n, Option.bind_some, rf_some, ck_i, ck_r, ck_n, nb0, nb1, nbi, Nat.reduceAdd, if_true, if_false, not_false_eq_true, not_true_eq_false]
theorem st_d (ht : 7 * t + 7 ≤ z.2.2.1) (hL : z.2.2.1 ≤ 3584) {m : Nat} (hm : 26 < m) (hm2 : m < 32) (hv : z.2.2.2 (7 * t) &&& 31 = J m) : Run 236 28 [some (.ref (0)), some (.ref (3)), some (.ref (70)), some (.ref (75)), some (.ref (76)), some (.int (J (7 * t))), u6, u7, u8] [] (HC z α π β η o od) = Run 236 1812 [some (.ref (0)), some (.ref (3)), some (.ref (70)), some (.ref (75)), some (.ref (76)), some (.int (J (7 * t))), u6, u7, u8] [] (HC z α π β η o od) := by
  rw [e236_28]
  have hd : (J m : Int32).toInt < 0 ∨ 26 < (J m : Int32).toInt := by rw [J_ti (by omega)]; omega
  simp only [↓reduceIte, e236_30, e236_31, e236_32, e236_34, e236_35, e236_38, e236_39, e236_41, e236_42, e236_44, alen0, law_le ht hL, gx rfl (show 7 * t < z.2.2.1 by omega) hL, hv, e236_45_d hd, aft_v, aft_n, Option.bind_some, rf_some, ck_i, ck_r, ck_n, nb0, nb1, nbi, Nat.reduceAdd, if_true, if_false, not_false_eq_true, not_true_eq_false]
theorem turn_0 (I : Inv α π β n l k) (ht : 7 * t + 7 ≤ z.2.2.1) (hL : z.2.2.1 ≤ 3584) (hv : z.2.2.2 (7 * t) &&& 31 = J 0) : Turn z α π β η o od t u6 u7 u8 := by
  unfold Turn
  rw [st_0 ht hL hv]
  obtain ⟨kk, b, z', α', π', β', o', n', l', k', r1, r2, hc, hw, I', hz⟩ := op_begin (z := z) (η := η) (o := o) (od := od) I (z.2.2.2 (7 * t + 1)) (z.2.2.2 (7 * t + 2))
  dsimp only at r1 r2
  refine ⟨z', α', π', β', η, o', od, n', l', k', some (.int kk), some (.int b), u8, ?_, I', hz⟩
  by_cases q : kk = 0
  · have hw' := hw q
    subst q
    simp only [↓reduceIte, e236_168, e236_169, e236_170, e236_172, e236_173, e236_174, e236_175, e236_176, e236_178, e236_179, e236_180, e236_181, e236_182, e236_185, e236_187, e236_188, e236_189, e236_191, e236_192, e236_193, e236_194, e236_195, e236_197, e236_198, e236_199, e236_200, e236_203, e236_205, e236_206, e236_209, e236_211, e236_214, e236_215, e236_216, e236_218, e236_221, e236_222, e236_223, e236_224, e236_226, e236_227, e236_228, e236_231, e236_232, e236_233, e236_1812, e236_1815, Ja1, Ja2, Ja3, Ja4, Ja5, Ja6, Ja7, gx rfl (show 7 * t + 1 < z.2.2.1 by omega) hL, gx (z_eq hz) (show 7 * t + 1 < z.2.2.1 by omega) hL, gx rfl (show 7 * t + 2 < z.2.2.1 by omega) hL, gx (z_eq hz) (show 7 * t + 2 < z.2.2.1 by omega) hL, r1, isO70, r2, s117, hc, gaJ75, hw', lg_self, aft_v, aft_n, Option.bind_some, rf_some, ck_i, ck_r, ck_n, nb0, nb1, nbi, Nat.reduceAdd, if_true, if_false, not_false_eq_true, not_true_eq_false]
  · simp only [↓reduceIte, e236_168, e236_169, e236_170, e236_172, e236_173, e236_174, e236_175, e236_176, e236_178, e236_179, e236_180, e236_181, e236_182, e236_185, e236_187, e236_188, e236_189, e236_191, e236_192, e236_193, e236_194, e236_195, e236_197, e236_198, e236_199, e236_200, e236_203, e236_205, e236_206, e236_209, e236_211, e236_214, e236_215, e236_216, e236_218, e236_221, e236_222, e236_223, e236_224, e236_226, e236_227, e236_228, e236_231, e236_232, e236_233, e236_1812, e236_1815, Ja1, Ja2, Ja3, Ja4, Ja5, Ja6, Ja7, gx rfl (show 7 * t + 1 < z.2.2.1 by omega) hL, gx (z_eq hz) (show 7 * t + 1 < z.2.2.1 by omega) hL, gx rfl (show 7 * t + 2 < z.2.2.1 by omega) hL, gx (z_eq hz) (show 7 * t + 2 < z.2.2.1 by omega) hL, r1, isO70, r2, s117, hc, q, aft_v, aft_n, Option.bind_some, rf_some, ck_i, ck_r, ck_n, nb0, nb1, nbi, Nat.reduceAdd, if_true, if_false, not_false_eq_true, not_true_eq_false]
theorem turn_1 (I : Inv α π β n l k) (ht : 7 * t + 7 ≤ z.2.2.1) (hL : z.2.2.1 ≤ 3584) (hv : z.2.2.2 (7 * t) &&& 31 = J 1) : Turn z α π β η o od t u6 u7 u8 := by
  unfold Turn
  rw [st_1 ht hL hv]
  by_cases qb : z.2.2.2 (7 * t + 2) = 0
  · obtain ⟨kk, b, z', α', π', β', o', n', l', k', r1, r2, hc, hw, I', hz⟩ := op_rock (z := z) (η := η) (o := o) (od := od) I (z.2.2.2 (7 * t + 1)) 0 (Or.inl rfl)
    dsimp only at r1 r2
    refine ⟨z', α', π', β', η, o', od, n', l', k', some (.int kk), some (.int b), u8, ?_, I', hz⟩
    by_cases q : kk = 0
    · have hw' := hw q
      subst q
      simp only [↓reduceIte, e236_236, e236_237, e236_238, e236_240, e236_241, e236_242, e236_243, e236_244, e236_246, e236_247, e236_248, e236_249, e236_252, e236_253, e236_256, e236_257, e236_258, e236_261, e236_263, e236_264, e236_265, e236_267, e236_268, e236_269, e236_270, e236_271, e236_273, e236_274, e236_275, e236_276, e236_279, e236_280, e236_283, e236_284, e236_287, e236_289, e236_290, e236_293, e236_295, e236_298, e236_299, e236_300, e236_302, e236_305, e236_306, e236_307, e236_308, e236_310, e236_311, e236_312, e236_315, e236_316, e236_317, e236_1812, e236_1815, Ja1, Ja2, Ja3, Ja4, Ja5, Ja6, Ja7, gx rfl (show 7 * t + 1 < z.2.2.1 by omega) hL, gx (z_eq hz) (show 7 * t + 1 < z.2.2.1 by omega) hL, gx rfl (show 7 * t + 2 < z.2.2.1 by omega) hL, gx (z_eq hz) (show 7 * t + 2 < z.2.2.1 by omega) hL, qb, r1, isO70, r2, s117, hc, gaJ75, hw', lg_self, aft_v, aft_n, Option.bind_some, rf_some, ck_i, ck_r, ck_n, nb0, nb1, nbi, Nat.reduceAdd, if_true, if_false, not_false_eq_true, not_true_eq_false]
    · simp only [↓reduceIte, e236_236, e236_237, e236_238, e236_240, e236_241, e236_242, e236_243, e236_244, e236_246, e236_247, e236_248, e236_249, e236_252, e236_253, e236_256, e236_257, e236_258, e236_261, e236_263, e236_264, e236_265, e236_267, e236_268, e236_269, e236_270, e236_271, e236_273, e236_274, e236_275, e236_276, e236_279, e236_280, e236_283, e236_284, e236_287, e236_289, e236_290, e236_293, e236_295, e236_298, e236_299, e236_300, e236_302, e236_305, e236_306, e236_307, e236_308, e236_310, e236_311, e236_312, e236_315, e236_316, e236_317, e236_1812, e236_1815, Ja1, Ja2, Ja3, Ja4, Ja5, Ja6, Ja7, gx rfl (show 7 * t + 1 < z.2.2.1 by omega) hL, gx (z_eq hz) (show 7 * t + 1 < z.2.2.1 by omega) hL, gx rfl (show 7 * t + 2 < z.2.2.1 by omega) hL, gx (z_eq hz) (show 7 * t + 2 < z.2.2.1 by omega) hL, qb, r1, isO70, r2, s117, hc, q, aft_v, aft_n, Option.bind_some, rf_some, ck_i, ck_r, ck_n, nb0, nb1, nbi, Nat.reduceAdd, if_true, if_false, not_false_eq_true, not_true_eq_false]
  · obtain ⟨kk, b, z', α', π', β', o', n', l', k', r1, r2, hc, hw, I', hz⟩ := op_rock (z := z) (η := η) (o := o) (od := od) I (z.2.2.2 (7 * t + 1)) 1 (Or.inr rfl)
    dsimp only at r1 r2
    refine ⟨z', α', π', β', η, o', od, n', l', k', some (.int kk), some (.int b), u8, ?_, I', hz⟩
    by_cases q : kk = 0
    · have hw' := hw q
      subst q
      simp only [↓reduceIte, e236_236, e236_237, e236_238, e236_240, e236_241, e236_242, e236_243, e236_244, e236_246, e236_247, e236_248, e236_249, e236_252, e236_253, e236_256, e236_257, e236_258, e236_261, e236_263, e236_264, e236_265, e236_267, e236_268, e236_269, e236_270, e236_271, e236_273, e236_274, e236_275, e236_276, e236_279, e236_280, e236_283, e236_284, e236_287, e236_289, e236_290, e236_293, e236_295, e236_298, e236_299, e236_300, e236_302, e236_305, e236_306, e236_307, e236_308, e236_310, e236_311, e236_312, e236_315, e236_316, e236_317, e236_1812, e236_1815, Ja1, Ja2, Ja3, Ja4, Ja5, Ja6, Ja7, gx rfl (show 7 * t + 1 < z.2.2.1 by omega) hL, gx (z_eq hz) (show 7 * t + 1 < z.2.2.1 by omega) hL, gx rfl (show 7 * t + 2 < z.2.2.1 by omega) hL, gx (z_eq hz) (show 7 * t + 2 < z.2.2.1 by omega) hL, qb, r1, isO70, r2, s117, hc, gaJ75, hw', lg_self, aft_v, aft_n, Option.bind_some, rf_some, ck_i, ck_r, ck_n, nb0, nb1, nbi, Nat.reduceAdd, if_true, if_false, not_false_eq_true, not_true_eq_false]
    · simp only [↓reduceIte, e236_236, e236_237, e236_238, e236_240, e236_241, e236_242, e236_243, e236_244, e236_246, e236_247, e236_248, e236_249, e236_252, e236_253, e236_256, e236_257, e236_258, e236_261, e236_263, e236_264, e236_265, e236_267, e236_268, e236_269, e236_270, e236_271, e236_273, e236_274, e236_275, e236_276, e236_279, e236_280, e236_283, e236_284, e236_287, e236_289, e236_290, e236_293, e236_295, e236_298, e236_299, e236_300, e236_302, e236_305, e236_306, e236_307, e236_308, e236_310, e236_311, e236_312, e236_315, e236_316, e236_317, e236_1812, e236_1815, Ja1, Ja2, Ja3, Ja4, Ja5, Ja6, Ja7, gx rfl (show 7 * t + 1 < z.2.2.1 by omega) hL, gx (z_eq hz) (show 7 * t + 1 < z.2.2.1 by omega) hL, gx rfl (show 7 * t + 2 < z.2.2.1 by omega) hL, gx (z_eq hz) (show 7 * t + 2 < z.2.2.1 by omega) hL, qb, r1, isO70, r2, s117, hc, q, aft_v, aft_n, Option.bind_some, rf_some, ck_i, ck_r, ck_n, nb0, nb1, nbi, Nat.reduceAdd, if_true, if_false, not_false_eq_true, not_true_eq_false]
theorem turn_2 (I : Inv α π β n l k) (ht : 7 * t + 7 ≤ z.2.2.1) (hL : z.2.2.1 ≤ 3584) (hv : z.2.2.2 (7 * t) &&& 31 = J 2) : Turn z α π β η o od t u6 u7 u8 := by
  unfold Turn
  rw [st_2 ht hL hv]
  obtain ⟨kk, b, z', α', π', β', o', n', l', k', r1, r2, hc, hw, I', hz⟩ := op_wind (z := z) (η := η) (o := o) (od := od) I (z.2.2.2 (7 * t + 1)) (z.2.2.2 (7 * t + 2))
  dsimp only at r1 r2
  refine ⟨z', α', π', β', η, o', od, n', l', k', some (.int kk), some (.int b), u8, ?_, I', hz⟩
  by_cases q : kk = 0
  · have hw' := hw q
    subst q
    simp only [↓reduceIte, e236_320, e236_321, e236_322, e236_324, e236_325, e236_326, e236_327, e236_328, e236_330, e236_331, e236_332, e236_333, e236_334, e236_337, e236_339, e236_340, e236_341, e236_343, e236_344, e236_345, e236_346, e236_347, e236_349, e236_350, e236_351, e236_352, e236_355, e236_357, e236_358, e236_361, e236_363, e236_366, e236_367, e236_368, e236_370, e236_373, e236_374, e236_375, e236_376, e236_378, e236_379, e236_380, e236_383, e236_384, e236_385, e236_1812, e236_1815, Ja1, Ja2, Ja3, Ja4, Ja5, Ja6, Ja7, gx rfl (show 7 * t + 1 < z.2.2.1 by omega) hL, gx (z_eq hz) (show 7 * t + 1 < z.2.2.1 by omega) hL, gx rfl (show 7 * t + 2 < z.2.2.1 by omega) hL, gx (z_eq hz) (show 7 * t + 2 < z.2.2.1 by omega) hL, r1, isO70, r2, s117, hc, gaJ75, hw', lg_self, aft_v, aft_n, Option.bind_some, rf_some, ck_i, ck_r, ck_n, nb0, nb1, nbi, Nat.reduceAdd, if_true, if_false, not_false_eq_true, not_true_eq_false]
  · simp only [↓reduceIte, e236_320, e236_321, e236_322, e236_324, e236_325, e236_326, e236_327, e236_328, e236_330, e236_331, e236_332, e236_333, e236_334, e236_337, e236_339, e236_340, e236_341, e236_343, e236_344, e236_345, e236_346, e236_347, e236_349, e236_350, e236_351, e236_352, e236_355, e236_357, e236_358, e236_361, e236_363, e236_366, e236_367, e236_368, e236_370, e236_373, e236_374, e236_375, e236_376, e236_378, e236_379, e236_380, e236_383, e236_384, e236_385, e236_1812, e236_1815, Ja1, Ja2, Ja3, Ja4, Ja5, Ja6, Ja7, gx rfl (show 7 * t + 1 < z.2.2.1 by omega) hL, gx (z_eq hz) (show 7 * t + 1 < z.2.2.1 by omega) hL, gx rfl (show 7 * t + 2 < z.2.2.1 by omega) hL, gx (z_eq hz) (show 7 * t + 2 < z.2.2.1 by omega) hL, r1, isO70, r2, s117, hc, q, aft_v, aft_n, Option.bind_some, rf_some, ck_i, ck_r, ck_n, nb0, nb1, nbi, Nat.reduceAdd, if_true, if_false, not_false_eq_true, not_true_eq_false]
theorem turn_3 (I : Inv α π β n l k) (ht : 7 * t + 7 ≤ z.2.2.1) (hL : z.2.2.1 ≤ 3584) (hv : z.2.2.2 (7 * t) &&& 31 = J 3) : Turn z α π β η o od t u6 u7 u8 := by
  unfold Turn
  rw [st_3 ht hL hv]
  obtain ⟨kk, b, z', α', π', β', o', n', l', k', r1, r2, hc, hw, I', hz⟩ := op_add (z := z) (η := η) (o := o) (od := od) I (z.2.2.2 (7 * t + 1)) (z.2.2.2 (7 * t + 2)) (z.2.2.2 (7 * t + 3)) (z.2.2.2 (7 * t + 4)) (z.2.2.2 (7 * t + 5)) (z.2.2.2 (7 * t + 6))
  dsimp only at r1 r2
  refine ⟨z', α', π', β', η, o', od, n', l', k', some (.int kk), some (.int b), u8, ?_, I', hz⟩
  by_cases q : kk = 0
  · have hw' := hw q
    subst q
    simp only [↓reduceIte, e236_388, e236_389, e236_390, e236_392, e236_393, e236_394, e236_395, e236_396, e236_398, e236_399, e236_400, e236_401, e236_402, e236_404, e236_405, e236_406, e236_407, e236_408, e236_410, e236_411, e236_412, e236_413, e236_414, e236_416, e236_417, e236_418, e236_419, e236_420, e236_422, e236_424, e236_425, e236_426, e236_427, e236_430, e236_432, e236_433, e236_434, e236_436, e236_437, e236_438, e236_439, e236_440, e236_442, e236_443, e236_444, e236_445, e236_446, e236_448, e236_449, e236_450, e236_451, e236_452, e236_454, e236_455, e236_456, e236_457, e236_458, e236_460, e236_461, e236_462, e236_463, e236_464, e236_466, e236_468, e236_469, e236_470, e236_473, e236_475, e236_476, e236_479, e236_481, e236_484, e236_485, e236_486, e236_488, e236_491, e236_492, e236_493, e236_494, e236_496, e236_497, e236_498, e236_501, e236_502, e236_503, e236_1812, e236_1815, Ja1, Ja2, Ja3, Ja4, Ja5, Ja6, Ja7, gx rfl (show 7 * t + 1 < z.2.2.1 by omega) hL, gx (z_eq hz) (show 7 * t + 1 < z.2.2.1 by omega) hL, gx rfl (show 7 * t + 2 < z.2.2.1 by omega) hL, gx (z_eq hz) (show 7 * t + 2 < z.2.2.1 by omega) hL, gx rfl (show 7 * t + 3 < z.2.2.1 by omega) hL, gx (z_eq hz) (show 7 * t + 3 < z.2.2.1 by omega) hL, gx rfl (show 7 * t + 4 < z.2.2.1 by omega) hL, gx (z_eq hz) (show 7 * t + 4 < z.2.2.1 by omega) hL, gx rfl (show 7 * t + 5 < z.2.2.1 by omega) hL, gx (z_eq hz) (show 7 * t + 5 < z.2.2.1 by omega) hL, gx rfl (show 7 * t + 6 < z.2.2.1 by omega) hL, gx (z_eq hz) (show 7 * t + 6 < z.2.2.1 by omega) hL, r1, isO70, r2, s117, hc, gaJ75, hw', lg_self, aft_v, aft_n, Option.bind_some, rf_some, ck_i, ck_r, ck_n, nb0, nb1, nbi, Nat.reduceAdd, if_true, if_false, not_false_eq_true, not_true_eq_false]
  · simp only [↓reduceIte, e236_388, e236_389, e236_390, e236_392, e236_393, e236_394, e236_395, e236_396, e236_398, e236_399, e236_400, e236_401, e236_402, e236_404, e236_405, e236_406, e236_407, e236_408, e236_410, e236_411, e236_412, e236_413, e236_414, e236_416, e236_417, e236_418, e236_419, e236_420, e236_422, e236_424, e236_425, e236_426, e236_427, e236_430, e236_432, e236_433, e236_434, e236_436, e236_437, e236_438, e236_439, e236_440, e236_442, e236_443, e236_444, e236_445, e236_446, e236_448, e236_449, e236_450, e236_451, e236_452, e236_454, e236_455, e236_456, e236_457, e236_458, e236_460, e236_461, e236_462, e236_463, e236_464, e236_466, e236_468, e236_469, e236_470, e236_473, e236_475, e236_476, e236_479, e236_481, e236_484, e236_485, e236_486, e236_488, e236_491, e236_492, e236_493, e236_494, e236_496, e236_497, e236_498, e236_501, e236_502, e236_503, e236_1812, e236_1815, Ja1, Ja2, Ja3, Ja4, Ja5, Ja6, Ja7, gx rfl (show 7 * t + 1 < z.2.2.1 by omega) hL, gx (z_eq hz) (show 7 * t + 1 < z.2.2.1 by omega) hL, gx rfl (show 7 * t + 2 < z.2.2.1 by omega) hL, gx (z_eq hz) (show 7 * t + 2 < z.2.2.1 by omega) hL, gx rfl (show 7 * t + 3 < z.2.2.1 by omega) hL, gx (z_eq hz) (show 7 * t + 3 < z.2.2.1 by omega) hL, gx rfl (show 7 * t + 4 < z.2.2.1 by omega) hL, gx (z_eq hz) (show 7 * t + 4 < z.2.2.1 by omega) hL, gx rfl (show 7 * t + 5 < z.2.2.1 by omega) hL, gx (z_eq hz) (show 7 * t + 5 < z.2.2.1 by omega) hL, gx rfl (show 7 * t + 6 < z.2.2.1 by omega) hL, gx (z_eq hz) (show 7 * t + 6 < z.2.2.1 by omega) hL, r1, isO70, r2, s117, hc, q, aft_v, aft_n, Option.bind_some, rf_some, ck_i, ck_r, ck_n, nb0, nb1, nbi, Nat.reduceAdd, if_true, if_false, not_false_eq_true, not_true_eq_false]
theorem turn_4 (I : Inv α π β n l k) (ht : 7 * t + 7 ≤ z.2.2.1) (hL : z.2.2.1 ≤ 3584) (hv : z.2.2.2 (7 * t) &&& 31 = J 4) : Turn z α π β η o od t u6 u7 u8 := by
  unfold Turn
  rw [st_4 ht hL hv]
  obtain ⟨kk, b, z', α', π', β', o', n', l', k', r1, r2, hc, hw, I', hz⟩ := op_value (z := z) (η := η) (o := o) (od := od) I (z.2.2.2 (7 * t + 1))
  dsimp only at r1 r2
  refine ⟨z', α', π', β', η, o', od, n', l', k', some (.int kk), some (.int b), u8, ?_, I', hz⟩
  by_cases q : kk = 0
  · have hw' := hw q
    subst q
    simp only [↓reduceIte, e236_506, e236_507, e236_508, e236_510, e236_511, e236_512, e236_513, e236_514, e236_517, e236_519, e236_520, e236_521, e236_523, e236_524, e236_525, e236_526, e236_529, e236_531, e236_532, e236_535, e236_537, e236_540, e236_541, e236_542, e236_544, e236_547, e236_548, e236_549, e236_550, e236_552, e236_553, e236_554, e236_557, e236_558, e236_559, e236_1812, e236_1815, Ja1, Ja2, Ja3, Ja4, Ja5, Ja6, Ja7, gx rfl (show 7 * t + 1 < z.2.2.1 by omega) hL, gx (z_eq hz) (show 7 * t + 1 < z.2.2.1 by omega) hL, r1, isO70, r2, s117, hc, gaJ75, hw', lg_self, aft_v, aft_n, Option.bind_some, rf_some, ck_i, ck_r, ck_n, nb0, nb1, nbi, Nat.reduceAdd, if_true, if_false, not_false_eq_true, not_true_eq_false]
  · simp only [↓reduceIte, e236_506, e236_507, e236_508, e236_510, e236_511, e236_512, e236_513, e236_514, e236_517, e236_519, e236_520, e236_521, e236_523, e236_524, e236_525, e236_526, e236_529, e236_531, e236_532, e236_535, e236_537, e236_540, e236_541, e236_542, e236_544, e236_547, e236_548, e236_549, e236_550, e236_552, e236_553, e236_554, e236_557, e236_558, e236_559, e236_1812, e236_1815, Ja1, Ja2, Ja3, Ja4, Ja5, Ja6, Ja7, gx rfl (show 7 * t + 1 < z.2.2.1 by omega) hL, gx (z_eq hz) (show 7 * t + 1 < z.2.2.1 by omega) hL, r1, isO70, r2, s117, hc, q, aft_v, aft_n, Option.bind_some, rf_some, ck_i, ck_r, ck_n, nb0, nb1, nbi, Nat.reduceAdd, if_true, if_false, not_false_eq_true, not_true_eq_false]
theorem turn_5 (I : Inv α π β n l k) (ht : 7 * t + 7 ≤ z.2.2.1) (hL : z.2.2.1 ≤ 3584) (hv : z.2.2.2 (7 * t) &&& 31 = J 5) : Turn z α π β η o od t u6 u7 u8 := by
  unfold Turn
  rw [st_5 ht hL hv]
  obtain ⟨kk, b, z', α', π', β', o', n', l', k', r1, r2, hc, hw, I', hz⟩ := op_ship (z := z) (η := η) (o := o) (od := od) I (z.2.2.2 (7 * t + 1)) (z.2.2.2 (7 * t + 2))
  dsimp only at r1 r2
  refine ⟨z', α', π', β', η, o', od, n', l', k', some (.int kk), some (.int b), u8, ?_, I', hz⟩
  by_cases q : kk = 0
  · have hw' := hw q
    subst q
    simp only [↓reduceIte, e236_562, e236_563, e236_564, e236_566, e236_567, e236_568, e236_569, e236_570, e236_572, e236_573, e236_574, e236_575, e236_576, e236_579, e236_581, e236_582, e236_583, e236_585, e236_586, e236_587, e236_588, e236_589, e236_591, e236_592, e236_593, e236_594, e236_597, e236_599, e236_600, e236_603, e236_605, e236_608, e236_609, e236_610, e236_612, e236_615, e236_616, e236_617, e236_618, e236_620, e236_621, e236_622, e236_625, e236_626, e236_627, e236_1812, e236_1815, Ja1, Ja2, Ja3, Ja4, Ja5, Ja6, Ja7, gx rfl (show 7 * t + 1 < z.2.2.1 by omega) hL, gx (z_eq hz) (show 7 * t + 1 < z.2.2.1 by omega) hL, gx rfl (show 7 * t + 2 < z.2.2.1 by omega) hL, gx (z_eq hz) (show 7 * t + 2 < z.2.2.1 by omega) hL, r1, isO70, r2, s117, hc, gaJ75, hw', lg_self, aft_v, aft_n, Option.bind_some, rf_some, ck_i, ck_r, ck_n, nb0, nb1, nbi, Nat.reduceAdd, if_true, if_false, not_false_eq_true, not_true_eq_false]
  · simp only [↓reduceIte, e236_562, e236_563, e236_564, e236_566, e236_567, e236_568, e236_569, e236_570, e236_572, e236_573, e236_574, e236_575, e236_576, e236_579, e236_581, e236_582, e236_583, e236_585, e236_586, e236_587, e236_588, e236_589, e236_591, e236_592, e236_593, e236_594, e236_597, e236_599, e236_600, e236_603, e236_605, e236_608, e236_609, e236_610, e236_612, e236_615, e236_616, e236_617, e236_618, e236_620, e236_621, e236_622, e236_625, e236_626, e236_627, e236_1812, e236_1815, Ja1, Ja2, Ja3, Ja4, Ja5, Ja6, Ja7, gx rfl (show 7 * t + 1 < z.2.2.1 by omega) hL, gx (z_eq hz) (show 7 * t + 1 < z.2.2.1 by omega) hL, gx rfl (show 7 * t + 2 < z.2.2.1 by omega) hL, gx (z_eq hz) (show 7 * t + 2 < z.2.2.1 by omega) hL, r1, isO70, r2, s117, hc, q, aft_v, aft_n, Option.bind_some, rf_some, ck_i, ck_r, ck_n, nb0, nb1, nbi, Nat.reduceAdd, if_true, if_false, not_false_eq_true, not_true_eq_false]
theorem turn_6 (I : Inv α π β n l k) (ht : 7 * t + 7 ≤ z.2.2.1) (hL : z.2.2.1 ≤ 3584) (hv : z.2.2.2 (7 * t) &&& 31 = J 6) : Turn z α π β η o od t u6 u7 u8 := by
  unfold Turn
  rw [st_6 ht hL hv]
  obtain ⟨kk, b, z', α', π', β', o', n', l', k', r1, r2, hc, hw, I', hz⟩ := op_at (z := z) (η := η) (o := o) (od := od) I (z.2.2.2 (7 * t + 1))
  dsimp only at r1 r2
  refine ⟨z', α', π', β', η, o', od, n', l', k', some (.int kk), some (.int b), u8, ?_, I', hz⟩
  by_cases q : kk = 0
  · have hw' := hw q
    subst q
    simp only [↓reduceIte, e236_630, e236_631, e236_632, e236_634, e236_635, e236_636, e236_637, e236_638, e236_641, e236_643, e236_644, e236_645, e236_647, e236_648, e236_649, e236_650, e236_653, e236_655, e236_656, e236_659, e236_661, e236_664, e236_665, e236_666, e236_668, e236_671, e236_672, e236_673, e236_674, e236_676, e236_677, e236_678, e236_681, e236_682, e236_683, e236_1812, e236_1815, Ja1, Ja2, Ja3, Ja4, Ja5, Ja6, Ja7, gx rfl (show 7 * t + 1 < z.2.2.1 by omega) hL, gx (z_eq hz) (show 7 * t + 1 < z.2.2.1 by omega) hL, r1, isO70, r2, s117, hc, gaJ75, hw', lg_self, aft_v, aft_n, Option.bind_some, rf_some, ck_i, ck_r, ck_n, nb0, nb1, nbi, Nat.reduceAdd, if_true, if_false, not_false_eq_true, not_true_eq_false]
  · simp only [↓reduceIte, e236_630, e236_631, e236_632, e236_634, e236_635, e236_636, e236_637, e236_638, e236_641, e236_643, e236_644, e236_645, e236_647, e236_648, e236_649, e236_650, e236_653, e236_655, e236_656, e236_659, e236_661, e236_664, e236_665, e236_666, e236_668, e236_671, e236_672, e236_673, e236_674, e236_676, e236_677, e236_678, e236_681, e236_682, e236_683, e236_1812, e236_1815, Ja1, Ja2, Ja3, Ja4, Ja5, Ja6, Ja7, gx rfl (show 7 * t + 1 < z.2.2.1 by omega) hL, gx (z_eq hz) (show 7 * t + 1 < z.2.2.1 by omega) hL, r1, isO70, r2, s117, hc, q, aft_v, aft_n, Option.bind_some, rf_some, ck_i, ck_r, ck_n, nb0, nb1, nbi, Nat.reduceAdd, if_true, if_false, not_false_eq_true, not_true_eq_false]
theorem turn_7 (I : Inv α π β n l k) (ht : 7 * t + 7 ≤ z.2.2.1) (hL : z.2.2.1 ≤ 3584) (hv : z.2.2.2 (7 * t) &&& 31 = J 7) : Turn z α π β η o od t u6 u7 u8 := by
  unfold Turn
  rw [st_7 ht hL hv]
  obtain ⟨kk, b, z', α', π', β', o', n', l', k', r1, r2, hc, hw, I', hz⟩ := op_distance (z := z) (η := η) (o := o) (od := od) I (z.2.2.2 (7 * t + 1)) (z.2.2.2 (7 * t + 2))
  dsimp only at r1 r2
  refine ⟨z', α', π', β', η, o', od, n', l', k', some (.int kk), some (.int b), u8, ?_, I', hz⟩
  by_cases q : kk = 0
  · have hw' := hw q
    subst q
    simp only [↓reduceIte, e236_686, e236_687, e236_688, e236_690, e236_691, e236_692, e236_693, e236_694, e236_696, e236_697, e236_698, e236_699, e236_700, e236_703, e236_705, e236_706, e236_707, e236_709, e236_710, e236_711, e236_712, e236_713, e236_715, e236_716, e236_717, e236_718, e236_721, e236_723, e236_724, e236_727, e236_729, e236_732, e236_733, e236_734, e236_736, e236_739, e236_740, e236_741, e236_742, e236_744, e236_745, e236_746, e236_749, e236_750, e236_751, e236_1812, e236_1815, Ja1, Ja2, Ja3, Ja4, Ja5, Ja6, Ja7, gx rfl (show 7 * t + 1 < z.2.2.1 by omega) hL, gx (z_eq hz) (show 7 * t + 1 < z.2.2.1 by omega) hL, gx rfl (show 7 * t + 2 < z.2.2.1 by omega) hL, gx (z_eq hz) (show 7 * t + 2 < z.2.2.1 by omega) hL, r1, isO70, r2, s117, hc, gaJ75, hw', lg_self, aft_v, aft_n, Option.bind_some, rf_some, ck_i, ck_r, ck_n, nb0, nb1, nbi, Nat.reduceAdd, if_true, if_false, not_false_eq_true, not_true_eq_false]
  · simp only [↓reduceIte, e236_686, e236_687, e236_688, e236_690, e236_691, e236_692, e236_693, e236_694, e236_696, e236_697, e236_698, e236_699, e236_700, e236_703, e236_705, e236_706, e236_707, e236_709, e236_710, e236_711, e236_712, e236_713, e236_715, e236_716, e236_717, e236_718, e236_721, e236_723, e236_724, e236_727, e236_729, e236_732, e236_733, e236_734, e236_736, e236_739, e236_740, e236_741, e236_742, e236_744, e236_745, e236_746, e236_749, e236_750, e236_751, e236_1812, e236_1815, Ja1, Ja2, Ja3, Ja4, Ja5, Ja6, Ja7, gx rfl (show 7 * t + 1 < z.2.2.1 by omega) hL, gx (z_eq hz) (show 7 * t + 1 < z.2.2.1 by omega) hL, gx rfl (show 7 * t + 2 < z.2.2.1 by omega) hL, gx (z_eq hz) (show 7 * t + 2 < z.2.2.1 by omega) hL, r1, isO70, r2, s117, hc, q, aft_v, aft_n, Option.bind_some, rf_some, ck_i, ck_r, ck_n, nb0, nb1, nbi, Nat.reduceAdd, if_true, if_false, not_false_eq_true, not_true_eq_false]
theorem turn_8 (I : Inv α π β n l k) (ht : 7 * t + 7 ≤ z.2.2.1) (hL : z.2.2.1 ≤ 3584) (hv : z.2.2.2 (7 * t) &&& 31 = J 8) : Turn z α π β η o od t u6 u7 u8 := by
  unfold Turn
  rw [st_8 ht hL hv]
  obtain ⟨kk, b, z', α', π', β', o', n', l', k', r1, r2, hc, hw, I', hz⟩ := op_bearing (z := z) (η := η) (o := o) (od := od) I (z.2.2.2 (7 * t + 1)) (z.2.2.2 (7 * t + 2))
  dsimp only at r1 r2
  refine ⟨z', α', π', β', η, o', od, n', l', k', some (.int kk), some (.int b), u8, ?_, I', hz⟩
  by_cases q : kk = 0
  · have hw' := hw q
    subst q
    simp only [↓reduceIte, e236_754, e236_755, e236_756, e236_758, e236_759, e236_760, e236_761, e236_762, e236_764, e236_765, e236_766, e236_767, e236_768, e236_771, e236_773, e236_774, e236_775, e236_777, e236_778, e236_779, e236_780, e236_781, e236_783, e236_784, e236_785, e236_786, e236_789, e236_791, e236_792, e236_795, e236_797, e236_800, e236_801, e236_802, e236_804, e236_807, e236_808, e236_809, e236_810, e236_812, e236_813, e236_814, e236_817, e236_818, e236_819, e236_1812, e236_1815, Ja1, Ja2, Ja3, Ja4, Ja5, Ja6, Ja7, gx rfl (show 7 * t + 1 < z.2.2.1 by omega) hL, gx (z_eq hz) (show 7 * t + 1 < z.2.2.1 by omega) hL, gx rfl (show 7 * t + 2 < z.2.2.1 by omega) hL, gx (z_eq hz) (show 7 * t + 2 < z.2.2.1 by omega) hL, r1, isO70, r2, s117, hc, gaJ75, hw', lg_self, aft_v, aft_n, Option.bind_some, rf_some, ck_i, ck_r, ck_n, nb0, nb1, nbi, Nat.reduceAdd, if_true, if_false, not_false_eq_true, not_true_eq_false]
  · simp only [↓reduceIte, e236_754, e236_755, e236_756, e236_758, e236_759, e236_760, e236_761, e236_762, e236_764, e236_765, e236_766, e236_767, e236_768, e236_771, e236_773, e236_774, e236_775, e236_777, e236_778, e236_779, e236_780, e236_781, e236_783, e236_784, e236_785, e236_786, e236_789, e236_791, e236_792, e236_795, e236_797, e236_800, e236_801, e236_802, e236_804, e236_807, e236_808, e236_809, e236_810, e236_812, e236_813, e236_814, e236_817, e236_818, e236_819, e236_1812, e236_1815, Ja1, Ja2, Ja3, Ja4, Ja5, Ja6, Ja7, gx rfl (show 7 * t + 1 < z.2.2.1 by omega) hL, gx (z_eq hz) (show 7 * t + 1 < z.2.2.1 by omega) hL, gx rfl (show 7 * t + 2 < z.2.2.1 by omega) hL, gx (z_eq hz) (show 7 * t + 2 < z.2.2.1 by omega) hL, r1, isO70, r2, s117, hc, q, aft_v, aft_n, Option.bind_some, rf_some, ck_i, ck_r, ck_n, nb0, nb1, nbi, Nat.reduceAdd, if_true, if_false, not_false_eq_true, not_true_eq_false]
theorem turn_9 (I : Inv α π β n l k) (ht : 7 * t + 7 ≤ z.2.2.1) (hL : z.2.2.1 ≤ 3584) (hv : z.2.2.2 (7 * t) &&& 31 = J 9) : Turn z α π β η o od t u6 u7 u8 := by
  unfold Turn
  rw [st_9 ht hL hv]
  obtain ⟨kk, b, z', α', π', β', o', n', l', k', r1, r2, hc, hw, I', hz⟩ := op_ahead (z := z) (η := η) (o := o) (od := od) I (z.2.2.2 (7 * t + 1))
  dsimp only at r1 r2
  refine ⟨z', α', π', β', η, o', od, n', l', k', some (.int kk), some (.int b), u8, ?_, I', hz⟩
  by_cases q : kk = 0
  · have hw' := hw q
    subst q
    simp only [↓reduceIte, e236_822, e236_823, e236_824, e236_826, e236_827, e236_828, e236_829, e236_830, e236_833, e236_835, e236_836, e236_837, e236_839, e236_840, e236_841, e236_842, e236_845, e236_847, e236_848, e236_851, e236_853, e236_856, e236_857, e236_858, e236_860, e236_863, e236_864, e236_865, e236_866, e236_868, e236_869, e236_870, e236_873, e236_874, e236_875, e236_1812, e236_1815, Ja1, Ja2, Ja3, Ja4, Ja5, Ja6, Ja7, gx rfl (show 7 * t + 1 < z.2.2.1 by omega) hL, gx (z_eq hz) (show 7 * t + 1 < z.2.2.1 by omega) hL, r1, isO70, r2, s117, hc, gaJ75, hw', lg_self, aft_v, aft_n, Option.bind_some, rf_some, ck_i, ck_r, ck_n, nb0, nb1, nbi, Nat.reduceAdd, if_true, if_false, not_false_eq_true, not_true_eq_false]
  · simp only [↓reduceIte, e236_822, e236_823, e236_824, e236_826, e236_827, e236_828, e236_829, e236_830, e236_833, e236_835, e236_836, e236_837, e236_839, e236_840, e236_841, e236_842, e236_845, e236_847, e236_848, e236_851, e236_853, e236_856, e236_857, e236_858, e236_860, e236_863, e236_864, e236_865, e236_866, e236_868, e236_869, e236_870, e236_873, e236_874, e236_875, e236_1812, e236_1815, Ja1, Ja2, Ja3, Ja4, Ja5, Ja6, Ja7, gx rfl (show 7 * t + 1 < z.2.2.1 by omega) hL, gx (z_eq hz) (show 7 * t + 1 < z.2.2.1 by omega) hL, r1, isO70, r2, s117, hc, q, aft_v, aft_n, Option.bind_some, rf_some, ck_i, ck_r, ck_n, nb0, nb1, nbi, Nat.reduceAdd, if_true, if_false, not_false_eq_true, not_true_eq_false]
theorem turn_10 (I : Inv α π β n l k) (ht : 7 * t + 7 ≤ z.2.2.1) (hL : z.2.2.1 ≤ 3584) (hv : z.2.2.2 (7 * t) &&& 31 = J 10) : Turn z α π β η o od t u6 u7 u8 := by
  unfold Turn
  rw [st_10 ht hL hv]
  by_cases qb : z.2.2.2 (7 * t + 2) = 0
  · obtain ⟨kk, b, z', α', π', β', o', n', l', k', r1, r2, hc, hw, I', hz⟩ := op_turn (z := z) (η := η) (o := o) (od := od) I (z.2.2.2 (7 * t + 1)) 0 (Or.inl rfl)
    dsimp only at r1 r2
    refine ⟨z', α', π', β', η, o', od, n', l', k', some (.int kk), some (.int b), u8, ?_, I', hz⟩
    by_cases q : kk = 0
    · have hw' := hw q
      subst q
      simp only [↓reduceIte, e236_878, e236_879, e236_880, e236_882, e236_883, e236_884, e236_885, e236_886, e236_888, e236_889, e236_890, e236_891, e236_894, e236_895, e236_898, e236_899, e236_900, e236_903, e236_905, e236_906, e236_907, e236_909, e236_910, e236_911, e236_912, e236_913, e236_915, e236_916, e236_917, e236_918, e236_921, e236_922, e236_925, e236_926, e236_929, e236_931, e236_932, e236_935, e236_937, e236_940, e236_941, e236_942, e236_944, e236_947, e236_948, e236_949, e236_950, e236_952, e236_953, e236_954, e236_957, e236_958, e236_959, e236_1812, e236_1815, Ja1, Ja2, Ja3, Ja4, Ja5, Ja6, Ja7, gx rfl (show 7 * t + 1 < z.2.2.1 by omega) hL, gx (z_eq hz) (show 7 * t + 1 < z.2.2.1 by omega) hL, gx rfl (show 7 * t + 2 < z.2.2.1 by omega) hL, gx (z_eq hz) (show 7 * t + 2 < z.2.2.1 by omega) hL, qb, r1, isO70, r2, s117, hc, gaJ75, hw', lg_self, aft_v, aft_n, Option.bind_some, rf_some, ck_i, ck_r, ck_n, nb0, nb1, nbi, Nat.reduceAdd, if_true, if_false, not_false_eq_true, not_true_eq_false]
    · simp only [↓reduceIte, e236_878, e236_879, e236_880, e236_882, e236_883, e236_884, e236_885, e236_886, e236_888, e236_889, e236_890, e236_891, e236_894, e236_895, e236_898, e236_899, e236_900, e236_903, e236_905, e236_906, e236_907, e236_909, e236_910, e236_911, e236_912, e236_913, e236_915, e236_916, e236_917, e236_918, e236_921, e236_922, e236_925, e236_926, e236_929, e236_931, e236_932, e236_935, e236_937, e236_940, e236_941, e236_942, e236_944, e236_947, e236_948, e236_949, e236_950, e236_952, e236_953, e236_954, e236_957, e236_958, e236_959, e236_1812, e236_1815, Ja1, Ja2, Ja3, Ja4, Ja5, Ja6, Ja7, gx rfl (show 7 * t + 1 < z.2.2.1 by omega) hL, gx (z_eq hz) (show 7 * t + 1 < z.2.2.1 by omega) hL, gx rfl (show 7 * t + 2 < z.2.2.1 by omega) hL, gx (z_eq hz) (show 7 * t + 2 < z.2.2.1 by omega) hL, qb, r1, isO70, r2, s117, hc, q, aft_v, aft_n, Option.bind_some, rf_some, ck_i, ck_r, ck_n, nb0, nb1, nbi, Nat.reduceAdd, if_true, if_false, not_false_eq_true, not_true_eq_false]
  · obtain ⟨kk, b, z', α', π', β', o', n', l', k', r1, r2, hc, hw, I', hz⟩ := op_turn (z := z) (η := η) (o := o) (od := od) I (z.2.2.2 (7 * t + 1)) 1 (Or.inr rfl)
    dsimp only at r1 r2
    refine ⟨z', α', π', β', η, o', od, n', l', k', some (.int kk), some (.int b), u8, ?_, I', hz⟩
    by_cases q : kk = 0
    · have hw' := hw q
      subst q
      simp only [↓reduceIte, e236_878, e236_879, e236_880, e236_882, e236_883, e236_884, e236_885, e236_886, e236_888, e236_889, e236_890, e236_891, e236_894, e236_895, e236_898, e236_899, e236_900, e236_903, e236_905, e236_906, e236_907, e236_909, e236_910, e236_911, e236_912, e236_913, e236_915, e236_916, e236_917, e236_918, e236_921, e236_922, e236_925, e236_926, e236_929, e236_931, e236_932, e236_935, e236_937, e236_940, e236_941, e236_942, e236_944, e236_947, e236_948, e236_949, e236_950, e236_952, e236_953, e236_954, e236_957, e236_958, e236_959, e236_1812, e236_1815, Ja1, Ja2, Ja3, Ja4, Ja5, Ja6, Ja7, gx rfl (show 7 * t + 1 < z.2.2.1 by omega) hL, gx (z_eq hz) (show 7 * t + 1 < z.2.2.1 by omega) hL, gx rfl (show 7 * t + 2 < z.2.2.1 by omega) hL, gx (z_eq hz) (show 7 * t + 2 < z.2.2.1 by omega) hL, qb, r1, isO70, r2, s117, hc, gaJ75, hw', lg_self, aft_v, aft_n, Option.bind_some, rf_some, ck_i, ck_r, ck_n, nb0, nb1, nbi, Nat.reduceAdd, if_true, if_false, not_false_eq_true, not_true_eq_false]
    · simp only [↓reduceIte, e236_878, e236_879, e236_880, e236_882, e236_883, e236_884, e236_885, e236_886, e236_888, e236_889, e236_890, e236_891, e236_894, e236_895, e236_898, e236_899, e236_900, e236_903, e236_905, e236_906, e236_907, e236_909, e236_910, e236_911, e236_912, e236_913, e236_915, e236_916, e236_917, e236_918, e236_921, e236_922, e236_925, e236_926, e236_929, e236_931, e236_932, e236_935, e236_937, e236_940, e236_941, e236_942, e236_944, e236_947, e236_948, e236_949, e236_950, e236_952, e236_953, e236_954, e236_957, e236_958, e236_959, e236_1812, e236_1815, Ja1, Ja2, Ja3, Ja4, Ja5, Ja6, Ja7, gx rfl (show 7 * t + 1 < z.2.2.1 by omega) hL, gx (z_eq hz) (show 7 * t + 1 < z.2.2.1 by omega) hL, gx rfl (show 7 * t + 2 < z.2.2.1 by omega) hL, gx (z_eq hz) (show 7 * t + 2 < z.2.2.1 by omega) hL, qb, r1, isO70, r2, s117, hc, q, aft_v, aft_n, Option.bind_some, rf_some, ck_i, ck_r, ck_n, nb0, nb1, nbi, Nat.reduceAdd, if_true, if_false, not_false_eq_true, not_true_eq_false]
theorem turn_12 (I : Inv α π β n l k) (ht : 7 * t + 7 ≤ z.2.2.1) (hL : z.2.2.1 ≤ 3584) (hv : z.2.2.2 (7 * t) &&& 31 = J 12) : Turn z α π β η o od t u6 u7 u8 := by
  unfold Turn
  rw [st_12 ht hL hv]
  by_cases qb : z.2.2.2 (7 * t + 2) = 0
  · obtain ⟨kk, b, z', α', π', β', o', n', l', k', r1, r2, hc, hw, I', hz⟩ := op_force (z := z) (η := η) (o := o) (od := od) I (z.2.2.2 (7 * t + 1)) 0 (z.2.2.2 (7 * t + 3)) (Or.inl rfl)
    dsimp only at r1 r2
    refine ⟨z', α', π', β', η, o', od, n', l', k', some (.int kk), some (.int b), u8, ?_, I', hz⟩
    by_cases q : kk = 0
    · have hw' := hw q
      subst q
      simp only [↓reduceIte, e236_975, e236_976, e236_977, e236_979, e236_980, e236_981, e236_982, e236_983, e236_985, e236_986, e236_987, e236_988, e236_991, e236_992, e236_995, e236_996, e236_997, e236_999, e236_1000, e236_1001, e236_1002, e236_1003, e236_1006, e236_1008, e236_1009, e236_1010, e236_1012, e236_1013, e236_1014, e236_1015, e236_1016, e236_1018, e236_1019, e236_1020, e236_1021, e236_1024, e236_1025, e236_1028, e236_1029, e236_1030, e236_1032, e236_1033, e236_1034, e236_1035, e236_1038, e236_1040, e236_1041, e236_1044, e236_1046, e236_1049, e236_1050, e236_1051, e236_1053, e236_1056, e236_1057, e236_1058, e236_1059, e236_1061, e236_1062, e236_1063, e236_1066, e236_1067, e236_1068, e236_1812, e236_1815, Ja1, Ja2, Ja3, Ja4, Ja5, Ja6, Ja7, gx rfl (show 7 * t + 1 < z.2.2.1 by omega) hL, gx (z_eq hz) (show 7 * t + 1 < z.2.2.1 by omega) hL, gx rfl (show 7 * t + 2 < z.2.2.1 by omega) hL, gx (z_eq hz) (show 7 * t + 2 < z.2.2.1 by omega) hL, gx rfl (show 7 * t + 3 < z.2.2.1 by omega) hL, gx (z_eq hz) (show 7 * t + 3 < z.2.2.1 by omega) hL, qb, r1, isO70, r2, s117, hc, gaJ75, hw', lg_self, aft_v, aft_n, Option.bind_some, rf_some, ck_i, ck_r, ck_n, nb0, nb1, nbi, Nat.reduceAdd, if_true, if_false, not_false_eq_true, not_true_eq_false]
    · simp only [↓reduceIte, e236_975, e236_976, e236_977, e236_979, e236_980, e236_981, e236_982, e236_983, e236_985, e236_986, e236_987, e236_988, e236_991, e236_992, e236_995, e236_996, e236_997, e236_999, e236_1000, e236_1001, e236_1002, e236_1003, e236_1006, e236_1008, e236_1009, e236_1010, e236_1012, e236_1013, e236_1014, e236_1015, e236_1016, e236_1018, e236_1019, e236_1020, e236_1021, e236_1024, e236_1025, e236_1028, e236_1029, e236_1030, e236_1032, e236_1033, e236_1034, e236_1035, e236_1038, e236_1040, e236_1041, e236_1044, e236_1046, e236_1049, e236_1050, e236_1051, e236_1053, e236_1056, e236_1057, e236_1058, e236_1059, e236_1061, e236_1062, e236_1063, e236_1066, e236_1067, e236_1068, e236_1812, e236_1815, Ja1, Ja2, Ja3, Ja4, Ja5, Ja6, Ja7, gx rfl (show 7 * t + 1 < z.2.2.1 by omega) hL, gx (z_eq hz) (show 7 * t + 1 < z.2.2.1 by omega) hL, gx rfl (show 7 * t + 2 < z.2.2.1 by omega) hL, gx (z_eq hz) (show 7 * t + 2 < z.2.2.1 by omega) hL, gx rfl (show 7 * t + 3 < z.2.2.1 by omega) hL, gx (z_eq hz) (show 7 * t + 3 < z.2.2.1 by omega) hL, qb, r1, isO70, r2, s117, hc, q, aft_v, aft_n, Option.bind_some, rf_some, ck_i, ck_r, ck_n, nb0, nb1, nbi, Nat.reduceAdd, if_true, if_false, not_false_eq_true, not_true_eq_false]
  · obtain ⟨kk, b, z', α', π', β', o', n', l', k', r1, r2, hc, hw, I', hz⟩ := op_force (z := z) (η := η) (o := o) (od := od) I (z.2.2.2 (7 * t + 1)) 1 (z.2.2.2 (7 * t + 3)) (Or.inr rfl)
    dsimp only at r1 r2
    refine ⟨z', α', π', β', η, o', od, n', l', k', some (.int kk), some (.int b), u8, ?_, I', hz⟩
    by_cases q : kk = 0
    · have hw' := hw q
      subst q
      simp only [↓reduceIte, e236_975, e236_976, e236_977, e236_979, e236_980, e236_981, e236_982, e236_983, e236_985, e236_986, e236_987, e236_988, e236_991, e236_992, e236_995, e236_996, e236_997, e236_999, e236_1000, e236_1001, e236_1002, e236_1003, e236_1006, e236_1008, e236_1009, e236_1010, e236_1012, e236_1013, e236_1014, e236_1015, e236_1016, e236_1018, e236_1019, e236_1020, e236_1021, e236_1024, e236_1025, e236_1028, e236_1029, e236_1030, e236_1032, e236_1033, e236_1034, e236_1035, e236_1038, e236_1040, e236_1041, e236_1044, e236_1046, e236_1049, e236_1050, e236_1051, e236_1053, e236_1056, e236_1057, e236_1058, e236_1059, e236_1061, e236_1062, e236_1063, e236_1066, e236_1067, e236_1068, e236_1812, e236_1815, Ja1, Ja2, Ja3, Ja4, Ja5, Ja6, Ja7, gx rfl (show 7 * t + 1 < z.2.2.1 by omega) hL, gx (z_eq hz) (show 7 * t + 1 < z.2.2.1 by omega) hL, gx rfl (show 7 * t + 2 < z.2.2.1 by omega) hL, gx (z_eq hz) (show 7 * t + 2 < z.2.2.1 by omega) hL, gx rfl (show 7 * t + 3 < z.2.2.1 by omega) hL, gx (z_eq hz) (show 7 * t + 3 < z.2.2.1 by omega) hL, qb, r1, isO70, r2, s117, hc, gaJ75, hw', lg_self, aft_v, aft_n, Option.bind_some, rf_some, ck_i, ck_r, ck_n, nb0, nb1, nbi, Nat.reduceAdd, if_true, if_false, not_false_eq_true, not_true_eq_false]
    · simp only [↓reduceIte, e236_975, e236_976, e236_977, e236_979, e236_980, e236_981, e236_982, e236_983, e236_985, e236_986, e236_987, e236_988, e236_991, e236_992, e236_995, e236_996, e236_997, e236_999, e236_1000, e236_1001, e236_1002, e236_1003, e236_1006, e236_1008, e236_1009, e236_1010, e236_1012, e236_1013, e236_1014, e236_1015, e236_1016, e236_1018, e236_1019, e236_1020, e236_1021, e236_1024, e236_1025, e236_1028, e236_1029, e236_1030, e236_1032, e236_1033, e236_1034, e236_1035, e236_1038, e236_1040, e236_1041, e236_1044, e236_1046, e236_1049, e236_1050, e236_1051, e236_1053, e236_1056, e236_1057, e236_1058, e236_1059, e236_1061, e236_1062, e236_1063, e236_1066, e236_1067, e236_1068, e236_1812, e236_1815, Ja1, Ja2, Ja3, Ja4, Ja5, Ja6, Ja7, gx rfl (show 7 * t + 1 < z.2.2.1 by omega) hL, gx (z_eq hz) (show 7 * t + 1 < z.2.2.1 by omega) hL, gx rfl (show 7 * t + 2 < z.2.2.1 by omega) hL, gx (z_eq hz) (show 7 * t + 2 < z.2.2.1 by omega) hL, gx rfl (show 7 * t + 3 < z.2.2.1 by omega) hL, gx (z_eq hz) (show 7 * t + 3 < z.2.2.1 by omega) hL, qb, r1, isO70, r2, s117, hc, q, aft_v, aft_n, Option.bind_some, rf_some, ck_i, ck_r, ck_n, nb0, nb1, nbi, Nat.reduceAdd, if_true, if_false, not_false_eq_true, not_true_eq_false]
theorem turn_13 (I : Inv α π β n l k) (ht : 7 * t + 7 ≤ z.2.2.1) (hL : z.2.2.1 ≤ 3584) (hv : z.2.2.2 (7 * t) &&& 31 = J 13) : Turn z α π β η o od t u6 u7 u8 := by
  unfold Turn
  rw [st_13 ht hL hv]
  by_cases qb : z.2.2.2 (7 * t + 2) = 0
  · obtain ⟨kk, b, z', α', π', β', o', n', l', k', r1, r2, hc, hw, I', hz⟩ := op_fire (z := z) (η := η) (o := o) (od := od) I (z.2.2.2 (7 * t + 1)) 0 (z.2.2.2 (7 * t + 3)) (z.2.2.2 (7 * t + 4)) (Or.inl rfl)
    dsimp only at r1 r2
    refine ⟨z', α', π', β', η, o', od, n', l', k', some (.int kk), some (.int b), u8, ?_, I', hz⟩
    by_cases q : kk = 0
    · have hw' := hw q
      subst q
      simp only [↓reduceIte, e236_1071, e236_1072, e236_1073, e236_1075, e236_1076, e236_1077, e236_1078, e236_1079, e236_1081, e236_1082, e236_1083, e236_1084, e236_1087, e236_1088, e236_1091, e236_1092, e236_1093, e236_1095, e236_1096, e236_1097, e236_1098, e236_1099, e236_1101, e236_1102, e236_1103, e236_1104, e236_1105, e236_1108, e236_1110, e236_1111, e236_1112, e236_1114, e236_1115, e236_1116, e236_1117, e236_1118, e236_1120, e236_1121, e236_1122, e236_1123, e236_1126, e236_1127, e236_1130, e236_1131, e236_1132, e236_1134, e236_1135, e236_1136, e236_1137, e236_1138, e236_1140, e236_1141, e236_1142, e236_1143, e236_1146, e236_1148, e236_1149, e236_1152, e236_1154, e236_1157, e236_1158, e236_1159, e236_1161, e236_1164, e236_1165, e236_1166, e236_1167, e236_1169, e236_1170, e236_1171, e236_1174, e236_1175, e236_1176, e236_1812, e236_1815, Ja1, Ja2, Ja3, Ja4, Ja5, Ja6, Ja7, gx rfl (show 7 * t + 1 < z.2.2.1 by omega) hL, gx (z_eq hz) (show 7 * t + 1 < z.2.2.1 by omega) hL, gx rfl (show 7 * t + 2 < z.2.2.1 by omega) hL, gx (z_eq hz) (show 7 * t + 2 < z.2.2.1 by omega) hL, gx rfl (show 7 * t + 3 < z.2.2.1 by omega) hL, gx (z_eq hz) (show 7 * t + 3 < z.2.2.1 by omega) hL, gx rfl (show 7 * t + 4 < z.2.2.1 by omega) hL, gx (z_eq hz) (show 7 * t + 4 < z.2.2.1 by omega) hL, qb, r1, isO70, r2, s117, hc, gaJ75, hw', lg_self, aft_v, aft_n, Option.bind_some, rf_some, ck_i, ck_r, ck_n, nb0, nb1, nbi, Nat.reduceAdd, if_true, if_false, not_false_eq_true, not_true_eq_false]
    · simp only [↓reduceIte, e236_1071, e236_1072, e236_1073, e236_1075, e236_1076, e236_1077, e236_1078, e236_1079, e236_1081, e236_1082, e236_1083, e236_1084, e236_1087, e236_1088, e236_1091, e236_1092, e236_1093, e236_1095, e236_1096, e236_1097, e236_1098, e236_1099, e236_1101, e236_1102, e236_1103, e236_1104, e236_1105, e236_1108, e236_1110, e236_1111, e236_1112, e236_1114, e236_1115, e236_1116, e236_1117, e236_1118, e236_1120, e236_1121, e236_1122, e236_1123, e236_1126, e236_1127, e236_1130, e236_1131, e236_1132, e236_1134, e236_1135, e236_1136, e236_1137, e236_1138, e236_1140, e236_1141, e236_1142, e236_1143, e236_1146, e236_1148, e236_1149, e236_1152, e236_1154, e236_1157, e236_1158, e236_1159, e236_1161, e236_1164, e236_1165, e236_1166, e236_1167, e236_1169, e236_1170, e236_1171, e236_1174, e236_1175, e236_1176, e236_1812, e236_1815, Ja1, Ja2, Ja3, Ja4, Ja5, Ja6, Ja7, gx rfl (show 7 * t + 1 < z.2.2.1 by omega) hL, gx (z_eq hz) (show 7 * t + 1 < z.2.2.1 by omega) hL, gx rfl (show 7 * t + 2 < z.2.2.1 by omega) hL, gx (z_eq hz) (show 7 * t + 2 < z.2.2.1 by omega) hL, gx rfl (show 7 * t + 3 < z.2.2.1 by omega) hL, gx (z_eq hz) (show 7 * t + 3 < z.2.2.1 by omega) hL, gx rfl (show 7 * t + 4 < z.2.2.1 by omega) hL, gx (z_eq hz) (show 7 * t + 4 < z.2.2.1 by omega) hL, qb, r1, isO70, r2, s117, hc, q, aft_v, aft_n, Option.bind_some, rf_some, ck_i, ck_r, ck_n, nb0, nb1, nbi, Nat.reduceAdd, if_true, if_false, not_false_eq_true, not_true_eq_false]
  · obtain ⟨kk, b, z', α', π', β', o', n', l', k', r1, r2, hc, hw, I', hz⟩ := op_fire (z := z) (η := η) (o := o) (od := od) I (z.2.2.2 (7 * t + 1)) 1 (z.2.2.2 (7 * t + 3)) (z.2.2.2 (7 * t + 4)) (Or.inr rfl)
    dsimp only at r1 r2
    refine ⟨z', α', π', β', η, o', od, n', l', k', some (.int kk), some (.int b), u8, ?_, I', hz⟩
    by_cases q : kk = 0
    · have hw' := hw q
      subst q
      simp only [↓reduceIte, e236_1071, e236_1072, e236_1073, e236_1075, e236_1076, e236_1077, e236_1078, e236_1079, e236_1081, e236_1082, e236_1083, e236_1084, e236_1087, e236_1088, e236_1091, e236_1092, e236_1093, e236_1095, e236_1096, e236_1097, e236_1098, e236_1099, e236_1101, e236_1102, e236_1103, e236_1104, e236_1105, e236_1108, e236_1110, e236_1111, e236_1112, e236_1114, e236_1115, e236_1116, e236_1117, e236_1118, e236_1120, e236_1121, e236_1122, e236_1123, e236_1126, e236_1127, e236_1130, e236_1131, e236_1132, e236_1134, e236_1135, e236_1136, e236_1137, e236_1138, e236_1140, e236_1141, e236_1142, e236_1143, e236_1146, e236_1148, e236_1149, e236_1152, e236_1154, e236_1157, e236_1158, e236_1159, e236_1161, e236_1164, e236_1165, e236_1166, e236_1167, e236_1169, e236_1170, e236_1171, e236_1174, e236_1175, e236_1176, e236_1812, e236_1815, Ja1, Ja2, Ja3, Ja4, Ja5, Ja6, Ja7, gx rfl (show 7 * t + 1 < z.2.2.1 by omega) hL, gx (z_eq hz) (show 7 * t + 1 < z.2.2.1 by omega) hL, gx rfl (show 7 * t + 2 < z.2.2.1 by omega) hL, gx (z_eq hz) (show 7 * t + 2 < z.2.2.1 by omega) hL, gx rfl (show 7 * t + 3 < z.2.2.1 by omega) hL, gx (z_eq hz) (show 7 * t + 3 < z.2.2.1 by omega) hL, gx rfl (show 7 * t + 4 < z.2.2.1 by omega) hL, gx (z_eq hz) (show 7 * t + 4 < z.2.2.1 by omega) hL, qb, r1, isO70, r2, s117, hc, gaJ75, hw', lg_self, aft_v, aft_n, Option.bind_some, rf_some, ck_i, ck_r, ck_n, nb0, nb1, nbi, Nat.reduceAdd, if_true, if_false, not_false_eq_true, not_true_eq_false]
    · simp only [↓reduceIte, e236_1071, e236_1072, e236_1073, e236_1075, e236_1076, e236_1077, e236_1078, e236_1079, e236_1081, e236_1082, e236_1083, e236_1084, e236_1087, e236_1088, e236_1091, e236_1092, e236_1093, e236_1095, e236_1096, e236_1097, e236_1098, e236_1099, e236_1101, e236_1102, e236_1103, e236_1104, e236_1105, e236_1108, e236_1110, e236_1111, e236_1112, e236_1114, e236_1115, e236_1116, e236_1117, e236_1118, e236_1120, e236_1121, e236_1122, e236_1123, e236_1126, e236_1127, e236_1130, e236_1131, e236_1132, e236_1134, e236_1135, e236_1136, e236_1137, e236_1138, e236_1140, e236_1141, e236_1142, e236_1143, e236_1146, e236_1148, e236_1149, e236_1152, e236_1154, e236_1157, e236_1158, e236_1159, e236_1161, e236_1164, e236_1165, e236_1166, e236_1167, e236_1169, e236_1170, e236_1171, e236_1174, e236_1175, e236_1176, e236_1812, e236_1815, Ja1, Ja2, Ja3, Ja4, Ja5, Ja6, Ja7, gx rfl (show 7 * t + 1 < z.2.2.1 by omega) hL, gx (z_eq hz) (show 7 * t + 1 < z.2.2.1 by omega) hL, gx rfl (show 7 * t + 2 < z.2.2.1 by omega) hL, gx (z_eq hz) (show 7 * t + 2 < z.2.2.1 by omega) hL, gx rfl (show 7 * t + 3 < z.2.2.1 by omega) hL, gx (z_eq hz) (show 7 * t + 3 < z.2.2.1 by omega) hL, gx rfl (show 7 * t + 4 < z.2.2.1 by omega) hL, gx (z_eq hz) (show 7 * t + 4 < z.2.2.1 by omega) hL, qb, r1, isO70, r2, s117, hc, q, aft_v, aft_n, Option.bind_some, rf_some, ck_i, ck_r, ck_n, nb0, nb1, nbi, Nat.reduceAdd, if_true, if_false, not_false_eq_true, not_true_eq_false]
theorem turn_14 (I : Inv α π β n l k) (ht : 7 * t + 7 ≤ z.2.2.1) (hL : z.2.2.1 ≤ 3584) (hv : z.2.2.2 (7 * t) &&& 31 = J 14) : Turn z α π β η o od t u6 u7 u8 := by
  unfold Turn
  rw [st_14 ht hL hv]
  obtain ⟨kk, b, z', α', π', β', o', n', l', k', r1, r2, hc, hw, I', hz⟩ := op_grapple (z := z) (η := η) (o := o) (od := od) I (z.2.2.2 (7 * t + 1)) (z.2.2.2 (7 * t + 2))
  dsimp only at r1 r2
  refine ⟨z', α', π', β', η, o', od, n', l', k', some (.int kk), some (.int b), u8, ?_, I', hz⟩
  by_cases q : kk = 0
  · have hw' := hw q
    subst q
    simp only [↓reduceIte, e236_1179, e236_1180, e236_1181, e236_1183, e236_1184, e236_1185, e236_1186, e236_1187, e236_1189, e236_1190, e236_1191, e236_1192, e236_1193, e236_1196, e236_1198, e236_1199, e236_1200, e236_1202, e236_1203, e236_1204, e236_1205, e236_1206, e236_1208, e236_1209, e236_1210, e236_1211, e236_1214, e236_1216, e236_1217, e236_1220, e236_1222, e236_1225, e236_1226, e236_1227, e236_1229, e236_1232, e236_1233, e236_1234, e236_1235, e236_1237, e236_1238, e236_1239, e236_1242, e236_1243, e236_1244, e236_1812, e236_1815, Ja1, Ja2, Ja3, Ja4, Ja5, Ja6, Ja7, gx rfl (show 7 * t + 1 < z.2.2.1 by omega) hL, gx (z_eq hz) (show 7 * t + 1 < z.2.2.1 by omega) hL, gx rfl (show 7 * t + 2 < z.2.2.1 by omega) hL, gx (z_eq hz) (show 7 * t + 2 < z.2.2.1 by omega) hL, r1, isO70, r2, s117, hc, gaJ75, hw', lg_self, aft_v, aft_n, Option.bind_some, rf_some, ck_i, ck_r, ck_n, nb0, nb1, nbi, Nat.reduceAdd, if_true, if_false, not_false_eq_true, not_true_eq_false]
  · simp only [↓reduceIte, e236_1179, e236_1180, e236_1181, e236_1183, e236_1184, e236_1185, e236_1186, e236_1187, e236_1189, e236_1190, e236_1191, e236_1192, e236_1193, e236_1196, e236_1198, e236_1199, e236_1200, e236_1202, e236_1203, e236_1204, e236_1205, e236_1206, e236_1208, e236_1209, e236_1210, e236_1211, e236_1214, e236_1216, e236_1217, e236_1220, e236_1222, e236_1225, e236_1226, e236_1227, e236_1229, e236_1232, e236_1233, e236_1234, e236_1235, e236_1237, e236_1238, e236_1239, e236_1242, e236_1243, e236_1244, e236_1812, e236_1815, Ja1, Ja2, Ja3, Ja4, Ja5, Ja6, Ja7, gx rfl (show 7 * t + 1 < z.2.2.1 by omega) hL, gx (z_eq hz) (show 7 * t + 1 < z.2.2.1 by omega) hL, gx rfl (show 7 * t + 2 < z.2.2.1 by omega) hL, gx (z_eq hz) (show 7 * t + 2 < z.2.2.1 by omega) hL, r1, isO70, r2, s117, hc, q, aft_v, aft_n, Option.bind_some, rf_some, ck_i, ck_r, ck_n, nb0, nb1, nbi, Nat.reduceAdd, if_true, if_false, not_false_eq_true, not_true_eq_false]
theorem turn_15 (I : Inv α π β n l k) (ht : 7 * t + 7 ≤ z.2.2.1) (hL : z.2.2.1 ≤ 3584) (hv : z.2.2.2 (7 * t) &&& 31 = J 15) : Turn z α π β η o od t u6 u7 u8 := by
  unfold Turn
  rw [st_15 ht hL hv]
  obtain ⟨kk, b, z', α', π', β', o', n', l', k', r1, r2, hc, hw, I', hz⟩ := op_cut (z := z) (η := η) (o := o) (od := od) I (z.2.2.2 (7 * t + 1))
  dsimp only at r1 r2
  refine ⟨z', α', π', β', η, o', od, n', l', k', some (.int kk), some (.int b), u8, ?_, I', hz⟩
  by_cases q : kk = 0
  · have hw' := hw q
    subst q
    simp only [↓reduceIte, e236_1247, e236_1248, e236_1249, e236_1251, e236_1252, e236_1253, e236_1254, e236_1255, e236_1258, e236_1260, e236_1261, e236_1262, e236_1264, e236_1265, e236_1266, e236_1267, e236_1270, e236_1272, e236_1273, e236_1276, e236_1278, e236_1281, e236_1282, e236_1283, e236_1285, e236_1288, e236_1289, e236_1290, e236_1291, e236_1293, e236_1294, e236_1295, e236_1298, e236_1299, e236_1300, e236_1812, e236_1815, Ja1, Ja2, Ja3, Ja4, Ja5, Ja6, Ja7, gx rfl (show 7 * t + 1 < z.2.2.1 by omega) hL, gx (z_eq hz) (show 7 * t + 1 < z.2.2.1 by omega) hL, r1, isO70, r2, s117, hc, gaJ75, hw', lg_self, aft_v, aft_n, Option.bind_some, rf_some, ck_i, ck_r, ck_n, nb0, nb1, nbi, Nat.reduceAdd, if_true, if_false, not_false_eq_true, not_true_eq_false]
  · simp only [↓reduceIte, e236_1247, e236_1248, e236_1249, e236_1251, e236_1252, e236_1253, e236_1254, e236_1255, e236_1258, e236_1260, e236_1261, e236_1262, e236_1264, e236_1265, e236_1266, e236_1267, e236_1270, e236_1272, e236_1273, e236_1276, e236_1278, e236_1281, e236_1282, e236_1283, e236_1285, e236_1288, e236_1289, e236_1290, e236_1291, e236_1293, e236_1294, e236_1295, e236_1298, e236_1299, e236_1300, e236_1812, e236_1815, Ja1, Ja2, Ja3, Ja4, Ja5, Ja6, Ja7, gx rfl (show 7 * t + 1 < z.2.2.1 by omega) hL, gx (z_eq hz) (show 7 * t + 1 < z.2.2.1 by omega) hL, r1, isO70, r2, s117, hc, q, aft_v, aft_n, Option.bind_some, rf_some, ck_i, ck_r, ck_n, nb0, nb1, nbi, Nat.reduceAdd, if_true, if_false, not_false_eq_true, not_true_eq_false]
theorem turn_16 (I : Inv α π β n l k) (ht : 7 * t + 7 ≤ z.2.2.1) (hL : z.2.2.1 ≤ 3584) (hv : z.2.2.2 (7 * t) &&& 31 = J 16) : Turn z α π β η o od t u6 u7 u8 := by
  unfold Turn
  rw [st_16 ht hL hv]
  obtain ⟨kk, b, z', α', π', β', o', n', l', k', r1, r2, hc, hw, I', hz⟩ := op_board (z := z) (η := η) (o := o) (od := od) I (z.2.2.2 (7 * t + 1))
  dsimp only at r1 r2
  refine ⟨z', α', π', β', η, o', od, n', l', k', some (.int kk), some (.int b), u8, ?_, I', hz⟩
  by_cases q : kk = 0
  · have hw' := hw q
    subst q
    simp only [↓reduceIte, e236_1303, e236_1304, e236_1305, e236_1307, e236_1308, e236_1309, e236_1310, e236_1311, e236_1314, e236_1316, e236_1317, e236_1318, e236_1320, e236_1321, e236_1322, e236_1323, e236_1326, e236_1328, e236_1329, e236_1332, e236_1334, e236_1337, e236_1338, e236_1339, e236_1341, e236_1344, e236_1345, e236_1346, e236_1347, e236_1349, e236_1350, e236_1351, e236_1354, e236_1355, e236_1356, e236_1812, e236_1815, Ja1, Ja2, Ja3, Ja4, Ja5, Ja6, Ja7, gx rfl (show 7 * t + 1 < z.2.2.1 by omega) hL, gx (z_eq hz) (show 7 * t + 1 < z.2.2.1 by omega) hL, r1, isO70, r2, s117, hc, gaJ75, hw', lg_self, aft_v, aft_n, Option.bind_some, rf_some, ck_i, ck_r, ck_n, nb0, nb1, nbi, Nat.reduceAdd, if_true, if_false, not_false_eq_true, not_true_eq_false]
  · simp only [↓reduceIte, e236_1303, e236_1304, e236_1305, e236_1307, e236_1308, e236_1309, e236_1310, e236_1311, e236_1314, e236_1316, e236_1317, e236_1318, e236_1320, e236_1321, e236_1322, e236_1323, e236_1326, e236_1328, e236_1329, e236_1332, e236_1334, e236_1337, e236_1338, e236_1339, e236_1341, e236_1344, e236_1345, e236_1346, e236_1347, e236_1349, e236_1350, e236_1351, e236_1354, e236_1355, e236_1356, e236_1812, e236_1815, Ja1, Ja2, Ja3, Ja4, Ja5, Ja6, Ja7, gx rfl (show 7 * t + 1 < z.2.2.1 by omega) hL, gx (z_eq hz) (show 7 * t + 1 < z.2.2.1 by omega) hL, r1, isO70, r2, s117, hc, q, aft_v, aft_n, Option.bind_some, rf_some, ck_i, ck_r, ck_n, nb0, nb1, nbi, Nat.reduceAdd, if_true, if_false, not_false_eq_true, not_true_eq_false]
theorem turn_17 (I : Inv α π β n l k) (ht : 7 * t + 7 ≤ z.2.2.1) (hL : z.2.2.1 ≤ 3584) (hv : z.2.2.2 (7 * t) &&& 31 = J 17) : Turn z α π β η o od t u6 u7 u8 := by
  unfold Turn
  rw [st_17 ht hL hv]
  obtain ⟨kk, b, z', α', π', β', o', n', l', k', r1, r2, hc, hw, I', hz⟩ := op_reach (z := z) (η := η) (o := o) (od := od) I (z.2.2.2 (7 * t + 1))
  dsimp only at r1 r2
  refine ⟨z', α', π', β', η, o', od, n', l', k', some (.int kk), some (.int b), u8, ?_, I', hz⟩
  by_cases q : kk = 0
  · have hw' := hw q
    subst q
    simp only [↓reduceIte, e236_1359, e236_1360, e236_1361, e236_1363, e236_1364, e236_1365, e236_1366, e236_1367, e236_1370, e236_1372, e236_1373, e236_1374, e236_1376, e236_1377, e236_1378, e236_1379, e236_1382, e236_1384, e236_1385, e236_1388, e236_1390, e236_1393, e236_1394, e236_1395, e236_1397, e236_1400, e236_1401, e236_1402, e236_1403, e236_1405, e236_1406, e236_1407, e236_1410, e236_1411, e236_1412, e236_1812, e236_1815, Ja1, Ja2, Ja3, Ja4, Ja5, Ja6, Ja7, gx rfl (show 7 * t + 1 < z.2.2.1 by omega) hL, gx (z_eq hz) (show 7 * t + 1 < z.2.2.1 by omega) hL, r1, isO70, r2, s117, hc, gaJ75, hw', lg_self, aft_v, aft_n, Option.bind_some, rf_some, ck_i, ck_r, ck_n, nb0, nb1, nbi, Nat.reduceAdd, if_true, if_false, not_false_eq_true, not_true_eq_false]
  · simp only [↓reduceIte, e236_1359, e236_1360, e236_1361, e236_1363, e236_1364, e236_1365, e236_1366, e236_1367, e236_1370, e236_1372, e236_1373, e236_1374, e236_1376, e236_1377, e236_1378, e236_1379, e236_1382, e236_1384, e236_1385, e236_1388, e236_1390, e236_1393, e236_1394, e236_1395, e236_1397, e236_1400, e236_1401, e236_1402, e236_1403, e236_1405, e236_1406, e236_1407, e236_1410, e236_1411, e236_1412, e236_1812, e236_1815, Ja1, Ja2, Ja3, Ja4, Ja5, Ja6, Ja7, gx rfl (show 7 * t + 1 < z.2.2.1 by omega) hL, gx (z_eq hz) (show 7 * t + 1 < z.2.2.1 by omega) hL, r1, isO70, r2, s117, hc, q, aft_v, aft_n, Option.bind_some, rf_some, ck_i, ck_r, ck_n, nb0, nb1, nbi, Nat.reduceAdd, if_true, if_false, not_false_eq_true, not_true_eq_false]
theorem turn_18 (I : Inv α π β n l k) (ht : 7 * t + 7 ≤ z.2.2.1) (hL : z.2.2.1 ≤ 3584) (hv : z.2.2.2 (7 * t) &&& 31 = J 18) : Turn z α π β η o od t u6 u7 u8 := by
  unfold Turn
  rw [st_18 ht hL hv]
  obtain ⟨kk, b, z', α', π', β', o', n', l', k', r1, r2, hc, hw, I', hz⟩ := op_points (z := z) (η := η) (o := o) (od := od) I (z.2.2.2 (7 * t + 1)) (z.2.2.2 (7 * t + 2))
  dsimp only at r1 r2
  refine ⟨z', α', π', β', η, o', od, n', l', k', some (.int kk), some (.int b), u8, ?_, I', hz⟩
  by_cases q : kk = 0
  · have hw' := hw q
    subst q
    simp only [↓reduceIte, e236_1415, e236_1416, e236_1417, e236_1419, e236_1420, e236_1421, e236_1422, e236_1423, e236_1425, e236_1426, e236_1427, e236_1428, e236_1429, e236_1432, e236_1434, e236_1435, e236_1436, e236_1438, e236_1439, e236_1440, e236_1441, e236_1442, e236_1444, e236_1445, e236_1446, e236_1447, e236_1450, e236_1452, e236_1453, e236_1456, e236_1458, e236_1461, e236_1462, e236_1463, e236_1465, e236_1468, e236_1469, e236_1470, e236_1471, e236_1473, e236_1474, e236_1475, e236_1478, e236_1479, e236_1480, e236_1812, e236_1815, Ja1, Ja2, Ja3, Ja4, Ja5, Ja6, Ja7, gx rfl (show 7 * t + 1 < z.2.2.1 by omega) hL, gx (z_eq hz) (show 7 * t + 1 < z.2.2.1 by omega) hL, gx rfl (show 7 * t + 2 < z.2.2.1 by omega) hL, gx (z_eq hz) (show 7 * t + 2 < z.2.2.1 by omega) hL, r1, isO70, r2, s117, hc, gaJ75, hw', lg_self, aft_v, aft_n, Option.bind_some, rf_some, ck_i, ck_r, ck_n, nb0, nb1, nbi, Nat.reduceAdd, if_true, if_false, not_false_eq_true, not_true_eq_false]
  · simp only [↓reduceIte, e236_1415, e236_1416, e236_1417, e236_1419, e236_1420, e236_1421, e236_1422, e236_1423, e236_1425, e236_1426, e236_1427, e236_1428, e236_1429, e236_1432, e236_1434, e236_1435, e236_1436, e236_1438, e236_1439, e236_1440, e236_1441, e236_1442, e236_1444, e236_1445, e236_1446, e236_1447, e236_1450, e236_1452, e236_1453, e236_1456, e236_1458, e236_1461, e236_1462, e236_1463, e236_1465, e236_1468, e236_1469, e236_1470, e236_1471, e236_1473, e236_1474, e236_1475, e236_1478, e236_1479, e236_1480, e236_1812, e236_1815, Ja1, Ja2, Ja3, Ja4, Ja5, Ja6, Ja7, gx rfl (show 7 * t + 1 < z.2.2.1 by omega) hL, gx (z_eq hz) (show 7 * t + 1 < z.2.2.1 by omega) hL, gx rfl (show 7 * t + 2 < z.2.2.1 by omega) hL, gx (z_eq hz) (show 7 * t + 2 < z.2.2.1 by omega) hL, r1, isO70, r2, s117, hc, q, aft_v, aft_n, Option.bind_some, rf_some, ck_i, ck_r, ck_n, nb0, nb1, nbi, Nat.reduceAdd, if_true, if_false, not_false_eq_true, not_true_eq_false]
theorem turn_19 (I : Inv α π β n l k) (ht : 7 * t + 7 ≤ z.2.2.1) (hL : z.2.2.1 ≤ 3584) (hv : z.2.2.2 (7 * t) &&& 31 = J 19) : Turn z α π β η o od t u6 u7 u8 := by
  unfold Turn
  rw [st_19 ht hL hv]
  obtain ⟨kk, b, z', α', π', β', o', n', l', k', r1, r2, hc, hw, I', hz⟩ := op_bestShot (z := z) (η := η) (o := o) (od := od) I (z.2.2.2 (7 * t + 1))
  dsimp only at r1 r2
  refine ⟨z', α', π', β', η, o', od, n', l', k', some (.int kk), some (.int b), u8, ?_, I', hz⟩
  by_cases q : kk = 0
  · have hw' := hw q
    subst q
    simp only [↓reduceIte, e236_1483, e236_1484, e236_1485, e236_1487, e236_1488, e236_1489, e236_1490, e236_1491, e236_1494, e236_1496, e236_1497, e236_1498, e236_1500, e236_1501, e236_1502, e236_1503, e236_1506, e236_1508, e236_1509, e236_1512, e236_1514, e236_1517, e236_1518, e236_1519, e236_1521, e236_1524, e236_1525, e236_1526, e236_1527, e236_1529, e236_1530, e236_1531, e236_1534, e236_1535, e236_1536, e236_1812, e236_1815, Ja1, Ja2, Ja3, Ja4, Ja5, Ja6, Ja7, gx rfl (show 7 * t + 1 < z.2.2.1 by omega) hL, gx (z_eq hz) (show 7 * t + 1 < z.2.2.1 by omega) hL, r1, isO70, r2, s117, hc, gaJ75, hw', lg_self, aft_v, aft_n, Option.bind_some, rf_some, ck_i, ck_r, ck_n, nb0, nb1, nbi, Nat.reduceAdd, if_true, if_false, not_false_eq_true, not_true_eq_false]
  · simp only [↓reduceIte, e236_1483, e236_1484, e236_1485, e236_1487, e236_1488, e236_1489, e236_1490, e236_1491, e236_1494, e236_1496, e236_1497, e236_1498, e236_1500, e236_1501, e236_1502, e236_1503, e236_1506, e236_1508, e236_1509, e236_1512, e236_1514, e236_1517, e236_1518, e236_1519, e236_1521, e236_1524, e236_1525, e236_1526, e236_1527, e236_1529, e236_1530, e236_1531, e236_1534, e236_1535, e236_1536, e236_1812, e236_1815, Ja1, Ja2, Ja3, Ja4, Ja5, Ja6, Ja7, gx rfl (show 7 * t + 1 < z.2.2.1 by omega) hL, gx (z_eq hz) (show 7 * t + 1 < z.2.2.1 by omega) hL, r1, isO70, r2, s117, hc, q, aft_v, aft_n, Option.bind_some, rf_some, ck_i, ck_r, ck_n, nb0, nb1, nbi, Nat.reduceAdd, if_true, if_false, not_false_eq_true, not_true_eq_false]
theorem turn_20 (I : Inv α π β n l k) (ht : 7 * t + 7 ≤ z.2.2.1) (hL : z.2.2.1 ≤ 3584) (hv : z.2.2.2 (7 * t) &&& 31 = J 20) : Turn z α π β η o od t u6 u7 u8 := by
  unfold Turn
  rw [st_20 ht hL hv]
  obtain ⟨kk, b, z', α', π', β', o', n', l', k', r1, r2, hc, hw, I', hz⟩ := op_bestWind (z := z) (η := η) (o := o) (od := od) I (z.2.2.2 (7 * t + 1))
  dsimp only at r1 r2
  refine ⟨z', α', π', β', η, o', od, n', l', k', some (.int kk), some (.int b), u8, ?_, I', hz⟩
  by_cases q : kk = 0
  · have hw' := hw q
    subst q
    simp only [↓reduceIte, e236_1539, e236_1540, e236_1541, e236_1543, e236_1544, e236_1545, e236_1546, e236_1547, e236_1550, e236_1552, e236_1553, e236_1554, e236_1556, e236_1557, e236_1558, e236_1559, e236_1562, e236_1564, e236_1565, e236_1568, e236_1570, e236_1573, e236_1574, e236_1575, e236_1577, e236_1580, e236_1581, e236_1582, e236_1583, e236_1585, e236_1586, e236_1587, e236_1590, e236_1591, e236_1592, e236_1812, e236_1815, Ja1, Ja2, Ja3, Ja4, Ja5, Ja6, Ja7, gx rfl (show 7 * t + 1 < z.2.2.1 by omega) hL, gx (z_eq hz) (show 7 * t + 1 < z.2.2.1 by omega) hL, r1, isO70, r2, s117, hc, gaJ75, hw', lg_self, aft_v, aft_n, Option.bind_some, rf_some, ck_i, ck_r, ck_n, nb0, nb1, nbi, Nat.reduceAdd, if_true, if_false, not_false_eq_true, not_true_eq_false]
  · simp only [↓reduceIte, e236_1539, e236_1540, e236_1541, e236_1543, e236_1544, e236_1545, e236_1546, e236_1547, e236_1550, e236_1552, e236_1553, e236_1554, e236_1556, e236_1557, e236_1558, e236_1559, e236_1562, e236_1564, e236_1565, e236_1568, e236_1570, e236_1573, e236_1574, e236_1575, e236_1577, e236_1580, e236_1581, e236_1582, e236_1583, e236_1585, e236_1586, e236_1587, e236_1590, e236_1591, e236_1592, e236_1812, e236_1815, Ja1, Ja2, Ja3, Ja4, Ja5, Ja6, Ja7, gx rfl (show 7 * t + 1 < z.2.2.1 by omega) hL, gx (z_eq hz) (show 7 * t + 1 < z.2.2.1 by omega) hL, r1, isO70, r2, s117, hc, q, aft_v, aft_n, Option.bind_some, rf_some, ck_i, ck_r, ck_n, nb0, nb1, nbi, Nat.reduceAdd, if_true, if_false, not_false_eq_true, not_true_eq_false]
theorem turn_22 (I : Inv α π β n l k) (ht : 7 * t + 7 ≤ z.2.2.1) (hL : z.2.2.1 ≤ 3584) (hv : z.2.2.2 (7 * t) &&& 31 = J 22) : Turn z α π β η o od t u6 u7 u8 := by
  unfold Turn
  rw [st_22 ht hL hv]
  obtain ⟨kk, b, z', α', π', β', o', n', l', k', r1, r2, hc, hw, I', hz⟩ := op_append (z := z) (η := η) (o := o) (od := od) I (z.2.2.2 (7 * t + 1))
  dsimp only at r1 r2
  refine ⟨z', α', π', β', η, o', od, n', l', k', some (.int kk), some (.int b), u8, ?_, I', hz⟩
  by_cases q : kk = 0
  · have hw' := hw q
    subst q
    simp only [↓reduceIte, e236_1672, e236_1673, e236_1674, e236_1676, e236_1677, e236_1678, e236_1679, e236_1680, e236_1683, e236_1685, e236_1686, e236_1687, e236_1689, e236_1690, e236_1691, e236_1692, e236_1695, e236_1697, e236_1698, e236_1701, e236_1703, e236_1706, e236_1707, e236_1708, e236_1710, e236_1713, e236_1714, e236_1715, e236_1716, e236_1718, e236_1719, e236_1720, e236_1723, e236_1724, e236_1725, e236_1812, e236_1815, Ja1, Ja2, Ja3, Ja4, Ja5, Ja6, Ja7, gx rfl (show 7 * t + 1 < z.2.2.1 by omega) hL, gx (z_eq hz) (show 7 * t + 1 < z.2.2.1 by omega) hL, r1, isO70, r2, s117, hc, gaJ75, hw', lg_self, aft_v, aft_n, Option.bind_some, rf_some, ck_i, ck_r, ck_n, nb0, nb1, nbi, Nat.reduceAdd, if_true, if_false, not_false_eq_true, not_true_eq_false]
  · simp only [↓reduceIte, e236_1672, e236_1673, e236_1674, e236_1676, e236_1677, e236_1678, e236_1679, e236_1680, e236_1683, e236_1685, e236_1686, e236_1687, e236_1689, e236_1690, e236_1691, e236_1692, e236_1695, e236_1697, e236_1698, e236_1701, e236_1703, e236_1706, e236_1707, e236_1708, e236_1710, e236_1713, e236_1714, e236_1715, e236_1716, e236_1718, e236_1719, e236_1720, e236_1723, e236_1724, e236_1725, e236_1812, e236_1815, Ja1, Ja2, Ja3, Ja4, Ja5, Ja6, Ja7, gx rfl (show 7 * t + 1 < z.2.2.1 by omega) hL, gx (z_eq hz) (show 7 * t + 1 < z.2.2.1 by omega) hL, r1, isO70, r2, s117, hc, q, aft_v, aft_n, Option.bind_some, rf_some, ck_i, ck_r, ck_n, nb0, nb1, nbi, Nat.reduceAdd, if_true, if_false, not_false_eq_true, not_true_eq_false]
theorem turn_25 (I : Inv α π β n l k) (ht : 7 * t + 7 ≤ z.2.2.1) (hL : z.2.2.1 ≤ 3584) (hv : z.2.2.2 (7 * t) &&& 31 = J 25) : Turn z α π β η o od t u6 u7 u8 := by
  unfold Turn
  rw [st_25 ht hL hv]
  obtain ⟨kk, b, z', α', π', β', o', n', l', k', r1, r2, hc, hw, I', hz⟩ := op_undo (z := z) (η := η) (o := o) (od := od) I
  dsimp only at r1 r2
  refine ⟨z', α', π', β', η, o', od, n', l', k', some (.int kk), some (.int b), u8, ?_, I', hz⟩
  by_cases q : kk = 0
  · have hw' := hw q
    subst q
    simp only [↓reduceIte, e236_1754, e236_1755, e236_1756, e236_1759, e236_1761, e236_1762, e236_1765, e236_1767, e236_1768, e236_1771, e236_1773, e236_1776, e236_1777, e236_1778, e236_1780, e236_1783, e236_1784, e236_1785, e236_1786, e236_1788, e236_1789, e236_1790, e236_1793, e236_1794, e236_1795, e236_1812, e236_1815, Ja1, Ja2, Ja3, Ja4, Ja5, Ja6, Ja7, r1, isO70, r2, s117, hc, gaJ75, hw', lg_self, aft_v, aft_n, Option.bind_some, rf_some, ck_i, ck_r, ck_n, nb0, nb1, nbi, Nat.reduceAdd, if_true, if_false, not_false_eq_true, not_true_eq_false]
  · simp only [↓reduceIte, e236_1754, e236_1755, e236_1756, e236_1759, e236_1761, e236_1762, e236_1765, e236_1767, e236_1768, e236_1771, e236_1773, e236_1776, e236_1777, e236_1778, e236_1780, e236_1783, e236_1784, e236_1785, e236_1786, e236_1788, e236_1789, e236_1790, e236_1793, e236_1794, e236_1795, e236_1812, e236_1815, Ja1, Ja2, Ja3, Ja4, Ja5, Ja6, Ja7, r1, isO70, r2, s117, hc, q, aft_v, aft_n, Option.bind_some, rf_some, ck_i, ck_r, ck_n, nb0, nb1, nbi, Nat.reduceAdd, if_true, if_false, not_false_eq_true, not_true_eq_false]
theorem turn_11 (I : Inv α π β n l k) (ht : 7 * t + 7 ≤ z.2.2.1) (hL : z.2.2.1 ≤ 3584) (hv : z.2.2.2 (7 * t) &&& 31 = J 11) : Turn z α π β η o od t u6 u7 u8 := by
  unfold Turn
  rw [st_11 ht hL hv]
  obtain ⟨v, α', π', β', n', l', k', r1, r2, I'⟩ := op_endRound (z := z) (η := η) (o := o) (od := od) I
  dsimp only at r1 r2
  refine ⟨z, α', π', β', η, o, od, n', l', k', u6, u7, u8, ?_, I', Or.inl rfl⟩
  simp only [↓reduceIte, e236_962, e236_963, e236_966, e236_967, e236_970, e236_973, e236_974, e236_1812, e236_1815, Ja7, isO3, r1, isO70, r2, aft_v, aft_n, Option.bind_some, rf_some, ck_i, ck_r, ck_n, nb0, nb1, nbi, Nat.reduceAdd, if_true, if_false, not_false_eq_true, not_true_eq_false]
theorem turn_23 (I : Inv α π β n l k) (ht : 7 * t + 7 ≤ z.2.2.1) (hL : z.2.2.1 ≤ 3584) (hv : z.2.2.2 (7 * t) &&& 31 = J 23) : Turn z α π β η o od t u6 u7 u8 := by
  unfold Turn
  rw [st_23 ht hL hv]
  obtain ⟨v, α', π', β', n', l', k', r1, r2, I'⟩ := op_clear (z := z) (η := η) (o := o) (od := od) I
  dsimp only at r1 r2
  refine ⟨z, α', π', β', η, o, od, n', l', k', u6, u7, u8, ?_, I', Or.inl rfl⟩
  simp only [↓reduceIte, e236_1728, e236_1729, e236_1732, e236_1733, e236_1736, e236_1739, e236_1740, e236_1812, e236_1815, Ja7, isO3, r1, isO70, r2, aft_v, aft_n, Option.bind_some, rf_some, ck_i, ck_r, ck_n, nb0, nb1, nbi, Nat.reduceAdd, if_true, if_false, not_false_eq_true, not_true_eq_false]
theorem turn_24 (I : Inv α π β n l k) (ht : 7 * t + 7 ≤ z.2.2.1) (hL : z.2.2.1 ≤ 3584) (hv : z.2.2.2 (7 * t) &&& 31 = J 24) : Turn z α π β η o od t u6 u7 u8 := by
  unfold Turn
  rw [st_24 ht hL hv]
  obtain ⟨v, α', π', β', n', l', k', r1, r2, I'⟩ := op_carry (z := z) (η := η) (o := o) (od := od) I
  dsimp only at r1 r2
  refine ⟨z, α', π', β', η, o, od, n', l', k', u6, u7, u8, ?_, I', Or.inl rfl⟩
  simp only [↓reduceIte, e236_1741, e236_1742, e236_1745, e236_1746, e236_1749, e236_1752, e236_1753, e236_1812, e236_1815, Ja7, isO3, r1, isO70, r2, aft_v, aft_n, Option.bind_some, rf_some, ck_i, ck_r, ck_n, nb0, nb1, nbi, Nat.reduceAdd, if_true, if_false, not_false_eq_true, not_true_eq_false]
theorem turn_26 (I : Inv α π β n l k) (ht : 7 * t + 7 ≤ z.2.2.1) (hL : z.2.2.1 ≤ 3584) (hv : z.2.2.2 (7 * t) &&& 31 = J 26) : Turn z α π β η o od t u6 u7 u8 := by
  unfold Turn
  rw [st_26 ht hL hv]
  obtain ⟨v, α', β', η', r1, r2, I'⟩ := op_digest (z := z) (η := η) (o := o) (od := od) I
  refine ⟨z, α', π, β', η', o, od, n, l, k, u6, u7, u8, ?_, I', Or.inl rfl⟩
  simp only [↓reduceIte, e236_1798, e236_1799, e236_1802, e236_1803, e236_1806, e236_1807, e236_1810, e236_1811, e236_1812, e236_1815, Ja7, isO3, r1, isO70, r2, lg_self, aft_v, aft_n, Option.bind_some, rf_some, ck_i, ck_r, ck_n, nb0, nb1, nbi, Nat.reduceAdd, if_true, if_false, not_false_eq_true, not_true_eq_false]
theorem turn_d (I : Inv α π β n l k) (ht : 7 * t + 7 ≤ z.2.2.1) (hL : z.2.2.1 ≤ 3584) {m : Nat} (hm : 26 < m) (hm2 : m < 32) (hv : z.2.2.2 (7 * t) &&& 31 = J m) : Turn z α π β η o od t u6 u7 u8 := by
  unfold Turn
  rw [st_d ht hL hm hm2 hv]
  refine ⟨z, α, π, β, η, o, od, n, l, k, u6, u7, u8, ?_, I, Or.inl rfl⟩
  simp only [↓reduceIte, e236_1812, e236_1815, Ja7, aft_v, aft_n, Option.bind_some, rf_some, ck_i, ck_r, ck_n, nb0, nb1, nbi, Nat.reduceAdd, if_true, if_false, not_false_eq_true, not_true_eq_false]
theorem turn_21 (I : Inv α π β n l k) (ht : 7 * t + 7 ≤ z.2.2.1) (hL : z.2.2.1 ≤ 3584) (hv : z.2.2.2 (7 * t) &&& 31 = J 21) : Turn z α π β η o od t u6 u7 u8 := by
  unfold Turn
  rw [st_21 ht hL hv]
  by_cases p : sideC (z.2.2.2 (7 * t + 1))
  · have r1 := w233_ok _ (s104 (z := z) (β := β) (π := π) (η := η) (o := o) (od := od) I.1 p)
    have r2 := s194 (z := z) (γ := α) (π := π) (η := η) (o := o) (od := vf_upd od 0 (balC α n (z.2.2.2 (7 * t + 1)))) I.1 I.2.2.1 p
    have ev : vf_upd od 0 (balC α n (z.2.2.2 (7 * t + 1))) 0 = balC α n (z.2.2.2 (7 * t + 1)) := rfl
    generalize balC α n (z.2.2.2 (7 * t + 1)) = D at r1 r2 ev
    refine ⟨z, α, π, up2 β 70 5 0, η, o, vf_upd od 0 D, n, l, k, some (.int 0), some (.double D), none, ?_, Inv_code I 0, Or.inl rfl⟩
    by_cases q : Op.cmpValue (FP.dcmp D D) .l = 0
    · simp only [↓reduceIte, e236_1595, e236_1596, e236_1597, e236_1599, e236_1600, e236_1601, e236_1602, e236_1604, e236_1607, e236_1609, e236_1610, e236_1611, e236_1613, e236_1614, e236_1615, e236_1616, e236_1619, e236_1621, e236_1622, e236_1625, e236_1627, e236_1630, e236_1631, e236_1632, e236_1634, e236_1637, e236_1639, e236_1640, e236_1641, e236_1643, e236_1644, e236_1647, e236_1649, e236_1650, e236_1651, e236_1653, e236_1654, e236_1655, e236_1656, e236_1659, e236_1661, e236_1663, e236_1664, e236_1667, e236_1668, e236_1669, e236_1812, e236_1815, Ja1, Ja2, Ja3, Ja4, Ja5, Ja6, Ja7, gx rfl (show 7 * t + 1 < z.2.2.1 by omega) hL, r1, isO70, r2, s117, up2_rr, gaD76, ev, q, aft_v, aft_n, Option.bind_some, rf_some, ck_i, ck_r, ck_n, nb0, nb1, nbi, Nat.reduceAdd, if_true, if_false, not_false_eq_true, not_true_eq_false]
    · simp only [↓reduceIte, e236_1595, e236_1596, e236_1597, e236_1599, e236_1600, e236_1601, e236_1602, e236_1604, e236_1607, e236_1609, e236_1610, e236_1611, e236_1613, e236_1614, e236_1615, e236_1616, e236_1619, e236_1621, e236_1622, e236_1625, e236_1627, e236_1630, e236_1631, e236_1632, e236_1634, e236_1637, e236_1639, e236_1640, e236_1641, e236_1643, e236_1644, e236_1647, e236_1649, e236_1650, e236_1651, e236_1653, e236_1654, e236_1655, e236_1656, e236_1659, e236_1661, e236_1663, e236_1664, e236_1667, e236_1668, e236_1669, e236_1812, e236_1815, Ja1, Ja2, Ja3, Ja4, Ja5, Ja6, Ja7, gx rfl (show 7 * t + 1 < z.2.2.1 by omega) hL, r1, isO70, r2, s117, up2_rr, gaD76, ev, q, aft_v, aft_n, Option.bind_some, rf_some, ck_i, ck_r, ck_n, nb0, nb1, nbi, Nat.reduceAdd, if_true, if_false, not_false_eq_true, not_true_eq_false]
  · have r1 := w233_x1 _ (s104n (z := z) (α := α) (β := β) (π := π) (η := η) (o := o) (od := od) p)
    have r2 := s194n (z := zb z) (γ := α) (β := β) (π := π) (η := η) (o := o) (od := od) p
    refine ⟨zb z, α, π, up2 β 70 5 1, η, o, od, n, l, k, some (.int 1), some (.double FP.dconst0), none, ?_, Inv_code I 1, Or.inr rfl⟩
    simp only [↓reduceIte, e236_1595, e236_1596, e236_1597, e236_1599, e236_1600, e236_1601, e236_1602, e236_1604, e236_1607, e236_1609, e236_1610, e236_1611, e236_1613, e236_1614, e236_1615, e236_1616, e236_1619, e236_1621, e236_1622, e236_1625, e236_1627, e236_1630, e236_1631, e236_1632, e236_1634, e236_1637, e236_1639, e236_1640, e236_1641, e236_1643, e236_1644, e236_1647, e236_1649, e236_1650, e236_1651, e236_1653, e236_1654, e236_1655, e236_1656, e236_1659, e236_1661, e236_1663, e236_1664, e236_1667, e236_1668, e236_1669, e236_1812, e236_1815, Ja1, Ja2, Ja3, Ja4, Ja5, Ja6, Ja7, gx rfl (show 7 * t + 1 < z.2.2.1 by omega) hL, gx (z' := zb z) rfl (show 7 * t + 1 < z.2.2.1 by omega) hL, show (zb z).2.2.2 (7 * t + 1) = z.2.2.2 (7 * t + 1) from rfl, r1, isO70, r2, s117, up2_rr, i1_0, aft_v, aft_n, Option.bind_some, rf_some, ck_i, ck_r, ck_n, nb0, nb1, nbi, Nat.reduceAdd, if_true, if_false, not_false_eq_true, not_true_eq_false]
theorem turn_all (I : Inv α π β n l k) (ht : 7 * t + 7 ≤ z.2.2.1) (hL : z.2.2.1 ≤ 3584) : Turn z α π β η o od t u6 u7 u8 := by
  obtain ⟨m, hm, hv⟩ := and31 (z.2.2.2 (7 * t))
  by_cases h : 26 < m
  · exact turn_d I ht hL h hm hv
  · have hc : m = 0 ∨ m = 1 ∨ m = 2 ∨ m = 3 ∨ m = 4 ∨ m = 5 ∨ m = 6 ∨ m = 7 ∨ m = 8 ∨ m = 9 ∨ m = 10 ∨ m = 11 ∨ m = 12 ∨ m = 13 ∨ m = 14 ∨ m = 15 ∨ m = 16 ∨ m = 17 ∨ m = 18 ∨ m = 19 ∨ m = 20 ∨ m = 21 ∨ m = 22 ∨ m = 23 ∨ m = 24 ∨ m = 25 ∨ m = 26 := by omega
    rcases hc with rfl | rfl | rfl | rfl | rfl | rfl | rfl | rfl | rfl | rfl | rfl | rfl | rfl | rfl | rfl | rfl | rfl | rfl | rfl | rfl | rfl | rfl | rfl | rfl | rfl | rfl | rfl
    · exact turn_0 I ht hL hv
    · exact turn_1 I ht hL hv
    · exact turn_2 I ht hL hv
    · exact turn_3 I ht hL hv
    · exact turn_4 I ht hL hv
    · exact turn_5 I ht hL hv
    · exact turn_6 I ht hL hv
    · exact turn_7 I ht hL hv
    · exact turn_8 I ht hL hv
    · exact turn_9 I ht hL hv
    · exact turn_10 I ht hL hv
    · exact turn_11 I ht hL hv
    · exact turn_12 I ht hL hv
    · exact turn_13 I ht hL hv
    · exact turn_14 I ht hL hv
    · exact turn_15 I ht hL hv
    · exact turn_16 I ht hL hv
    · exact turn_17 I ht hL hv
    · exact turn_18 I ht hL hv
    · exact turn_19 I ht hL hv
    · exact turn_20 I ht hL hv
    · exact turn_21 I ht hL hv
    · exact turn_22 I ht hL hv
    · exact turn_23 I ht hL hv
    · exact turn_24 I ht hL hv
    · exact turn_25 I ht hL hv
    · exact turn_26 I ht hL hv
end S72
