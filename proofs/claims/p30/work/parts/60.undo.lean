theorem J127 : (127 : Int32) = J 127 := rfl
def rsW (p q : Nat → Int32) (c i : Nat) : Nat → Int32 := fun j => if j < i then q (270 * c + j) else p j
theorem rsW_0 (p q : Nat → Int32) (c : Nat) : rsW p q c 0 = p := by funext j; unfold rsW; rw [if_neg (by omega)]
theorem rsW_st (p q : Nat → Int32) (c i : Nat) : upd (rsW p q c i) i (q (270 * c + i)) = rsW p q c (i + 1) := by
  funext j
  unfold upd rsW
  by_cases h : j = i
  · rw [if_pos h, if_pos (by omega), h]
  · rw [if_neg h]
    by_cases w : j < i
    · rw [if_pos w, if_pos (by omega)]
    · rw [if_neg w, if_neg (by omega)]
theorem upA_self (β : Mem) (a : Nat) : upA β a (β a) = β := by
  funext j
  by_cases h : j = a
  · rw [h, upA_at]
  · rw [upA_ne _ h]
section S60
variable {z : Zr} {α β γ : Mem} {π : Nat → Nat} {η : Int64} {o : Nat → Int64} {od : Nat → UInt64} {n l k : Nat}
theorem s107 (hp : seas π) (hk : α 15 1 = J (k + 1)) (h4 : k < 4) {m : Nat} (H : Ok (shA α (π k)) m) : Run 107 0 [some (.ref (3))] [] (HC z α π β η o od) = some (.inl (some (.int (J k))), (HC z (seaW (up2 α 15 1 (J k)) 4 (π k) m) π β η o od)) := by
  have hr : Run 32 0 [some (.ref (15)), some (.ref (4))] [] (HC z α π β η o od) = _ := s32 (n := m) hp hk h4 (by have := H.hn; unfold shA at this; exact this) H.n8 (fun i hi => by have := H.bo i hi; unfold shA at this; rw [show π k + (7 + i - 4) = π k + 3 + i by omega] at this; exact this) (fun i hi => by have := H.way i hi; unfold shA at this; rw [show π k + (7 + i - 4) = π k + 3 + i by omega] at this; exact this)
  have e15 : seaW (up2 α 15 1 (J k)) 4 (π k) m 15 1 = J k := by rw [seaW_o _ H.n8 (by omega), up2_rr]
  have n0 : (J (k + 1) = 0) = False := eq_false (by rw [J0, J_eq (by omega) (by omega)]; omega)
  simp only [↓reduceIte, e107_0, e107_1, e107_4, e107_7, e107_10, e107_21, e107_22, e107_25, e107_26, e107_29, e107_32, e107_33, e107_36, e107_39, gf8_0 kd3, gf8_1 kd3, gf4_1 kd15, hk, n0, isO15, hr, e15, aft_v, aft_n, Option.bind_some, rf_some, ck_i, ck_r, ck_n, nb0, nb1, nbi, Nat.reduceAdd, if_true, if_false, not_false_eq_true, not_true_eq_false]
theorem s107n (hk : α 15 1 = J 0) : Run 107 0 [some (.ref (3))] [] (HC z α π β η o od) = some (.inr "java/lang/IllegalStateException", HC (zb z) α π β η o od) := by
  simp only [↓reduceIte, e107_0, e107_1, e107_4, e107_7, e107_10, e107_21, e107_22, e107_25, e107_26, e107_29, e107_32, e107_33, e107_36, e107_39, gf8_1 kd3, gf4_1 kd15, hk, show J 0 = (0 : Int32) from rfl, hb_HC, aft_v, aft_n, Option.bind_some, rf_some, ck_i, ck_r, ck_n, nb0, nb1, nbi, Nat.reduceAdd, if_true, if_false, not_false_eq_true, not_true_eq_false]
theorem s105 (hl : α 68 1 = J l) (h150 : l < 150) {v : Int32} (hv : ¬ v < 0 ∧ ¬ 127 < v) : Run 105 0 [some (.ref (3)), some (.int (v))] [] (HC z α π β η o od) = some (.inl (some (.int (J (l + 1)))), (HC z (up2 (up2 α 69 l v) 68 1 (J (l + 1))) π β η o od)) := by
  have e1 : Run 34 0 [some (.ref (68))] [] (HC z α π β η o od) = some (.inl (some (.int (0))), (HC z α π β η o od)) := by rw [s34 hl (by omega), bi_f (by omega)]
  have e2 : Run 35 0 [some (.ref (68)), some (.int (v))] [] (HC z α π β η o od) = _ := s35 hl h150 v
  simp only [↓reduceIte, e105_0, e105_1, e105_4, e105_5, e105_7, e105_10, e105_21, e105_22, e105_25, e105_28, e105_31, e105_42, e105_43, e105_46, e105_47, e105_50, e105_51, e105_54, e105_57, gf8_6 kd3, isO68, hv.1, hv.2, le_not, e1, e2, gf5_1 kd68, up2_rr, aft_v, aft_n, Option.bind_some, rf_some, ck_i, ck_r, ck_n, nb0, nb1, nbi, Nat.reduceAdd, if_true, if_false, not_false_eq_true, not_true_eq_false]
theorem s105n {v : Int32} (hv : ¬ (¬ v < 0 ∧ ¬ 127 < v)) : Run 105 0 [some (.ref (3)), some (.int (v))] [] (HC z α π β η o od) = some (.inr "java/lang/IllegalArgumentException", HC (zb z) α π β η o od) := by
  by_cases q : v < 0
  · simp only [↓reduceIte, e105_0, e105_1, e105_4, e105_5, e105_7, e105_10, e105_21, e105_22, e105_25, e105_28, e105_31, e105_42, e105_43, e105_46, e105_47, e105_50, e105_51, e105_54, e105_57, q, hb_HC, aft_v, aft_n, Option.bind_some, rf_some, ck_i, ck_r, ck_n, nb0, nb1, nbi, Nat.reduceAdd, if_true, if_false, not_false_eq_true, not_true_eq_false]
  · have q2 : 127 < v := by by_cases x : 127 < v; exact x; exact absurd ⟨q, x⟩ hv
    simp only [↓reduceIte, e105_0, e105_1, e105_4, e105_5, e105_7, e105_10, e105_21, e105_22, e105_25, e105_28, e105_31, e105_42, e105_43, e105_46, e105_47, e105_50, e105_51, e105_54, e105_57, q, q2, le_not, hb_HC, aft_v, aft_n, Option.bind_some, rf_some, ck_i, ck_r, ck_n, nb0, nb1, nbi, Nat.reduceAdd, if_true, if_false, not_false_eq_true, not_true_eq_false]
theorem s105m (hl : α 68 1 = J l) (h150 : l = 150) {v : Int32} (hv : ¬ v < 0 ∧ ¬ 127 < v) : Run 105 0 [some (.ref (3)), some (.int (v))] [] (HC z α π β η o od) = some (.inr "java/lang/IllegalStateException", HC (zb z) α π β η o od) := by
  have e1 : Run 34 0 [some (.ref (68))] [] (HC z α π β η o od) = some (.inl (some (.int (1))), (HC z α π β η o od)) := by rw [s34 hl (by omega), bi_t h150]
  simp only [↓reduceIte, e105_0, e105_1, e105_4, e105_5, e105_7, e105_10, e105_21, e105_22, e105_25, e105_28, e105_31, e105_42, e105_43, e105_46, e105_47, e105_50, e105_51, e105_54, e105_57, gf8_6 kd3, isO68, hv.1, hv.2, le_not, e1, i1_0, hb_HC, aft_v, aft_n, Option.bind_some, rf_some, ck_i, ck_r, ck_n, nb0, nb1, nbi, Nat.reduceAdd, if_true, if_false, not_false_eq_true, not_true_eq_false]
end S60
section S60m
variable {z : Zr} {α β γ : Mem} {π : Nat → Nat} {η : Int64} {o : Nat → Int64} {od : Nat → UInt64} {n l k : Nat}
end S60m
section S60o
variable {z : Zr} {α β γ : Mem} {π : Nat → Nat} {η : Int64} {o : Nat → Int64} {od : Nat → UInt64} {n l k : Nat}
end S60o
