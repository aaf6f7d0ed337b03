/-! undo, the text's bytes, the end of a round -/
/-- a call that never throws: both answer v -/
def Res2 (R1 R2 : Hp → Option Ot) (z : Zr) (α : Mem) (π : Nat → Nat) (β : Mem) (η : Int64) (o : Nat → Int64) (od : Nat → UInt64) : Prop :=
  ∃ (v : Int32) (α' : Mem) (π' : Nat → Nat) (β' : Mem) (n l k : Nat), R1 (HC z α π β η o od) = some (.inl (some (.int v)), HC z α' π' β η o od) ∧ R2 (HC z α' π' β η o od) = some (.inl (some (.int v)), HC z α' π' β' η o od) ∧ Inv α' π' β' n l k
theorem J127 : (127 : Int32) = J 127 := rfl
def rsW (p q : Nat → Int32) (c i : Nat) : Nat → Int32 := fun j => if j < i then q (270 * c + j) else p j
theorem rsW_0 (p q : Nat → Int32) (c : Nat) : rsW p q c 0 = p := by funext j; unfold rsW; rw [if_neg (by omega)]
theorem rsW_st (p q : Nat → Int32) (c i : Nat) : upd (rsW p q c i) i (q (270 * c + i)) = rsW p q c (i + 1) := by
  funext j
  unfold upd rsW
  by_cases h : j = i
  · rw [if_pos h, if_pos (by omega), h]
  · rw [if_neg h]
    by_cases w : j < i
    · rw [if_pos w, if_pos (by omega)]
    · rw [if_neg w, if_neg (by omega)]
theorem upA_self (β : Mem) (a : Nat) : upA β a (β a) = β := by
  funext j
  by_cases h : j = a
  · rw [h, upA_at]
  · rw [upA_ne _ h]
section S60
variable {z : Zr} {α β γ : Mem} {π : Nat → Nat} {η : Int64} {o : Nat → Int64} {od : Nat → UInt64} {n l k : Nat}
theorem s108 (hp : seas π) (hk : α 15 1 = J (k + 1)) (h4 : k < 4) {m : Nat} (H : Ok (shA α (π k)) m) : Run 108 0 [some (.ref (3))] [] (HC z α π β η o od) = some (.inl (some (.int (J k))), (HC z (seaW (up2 α 15 1 (J k)) 4 (π k) m) π β η o od)) := by
  have hr : Run 32 0 [some (.ref (15)), some (.ref (4))] [] (HC z α π β η o od) = _ := s32 (n := m) hp hk h4 (by have := H.hn; unfold shA at this; exact this) H.n8 (fun i hi => by have := H.bo i hi; unfold shA at this; rw [show π k + (7 + i - 4) = π k + 3 + i by omega] at this; exact this) (fun i hi => by have := H.way i hi; unfold shA at this; rw [show π k + (7 + i - 4) = π k + 3 + i by omega] at this; exact this)
  have e15 : seaW (up2 α 15 1 (J k)) 4 (π k) m 15 1 = J k := by rw [seaW_o _ H.n8 (by omega), up2_rr]
  have n0 : (J (k + 1) = 0) = False := eq_false (by rw [J0, J_eq (by omega) (by omega)]; omega)
  simp only [↓reduceIte, e108_0, e108_1, e108_4, e108_7, e108_10, e108_21, e108_22, e108_25, e108_26, e108_29, e108_32, e108_33, e108_36, e108_39, gf8_0 kd3, gf8_1 kd3, gf4_1 kd15, hk, n0, isO15, hr, e15, aft_v, aft_n, Option.bind_some, rf_some, ck_i, ck_r, ck_n, nb0, nb1, nbi, Nat.reduceAdd, if_true, if_false, not_false_eq_true, not_true_eq_false]
theorem s108n (hk : α 15 1 = J 0) : Run 108 0 [some (.ref (3))] [] (HC z α π β η o od) = some (.inr "java/lang/IllegalStateException", HC (zb z) α π β η o od) := by
  simp only [↓reduceIte, e108_0, e108_1, e108_4, e108_7, e108_10, e108_21, e108_22, e108_25, e108_26, e108_29, e108_32, e108_33, e108_36, e108_39, gf8_1 kd3, gf4_1 kd15, hk, show J 0 = (0 : Int32) from rfl, hb_HC, aft_v, aft_n, Option.bind_some, rf_some, ck_i, ck_r, ck_n, nb0, nb1, nbi, Nat.reduceAdd, if_true, if_false, not_false_eq_true, not_true_eq_false]
theorem s105 (hl : α 68 1 = J l) (h150 : l < 150) {v : Int32} (hv : ¬ v < 0 ∧ ¬ 127 < v) : Run 105 0 [some (.ref (3)), some (.int (v))] [] (HC z α π β η o od) = some (.inl (some (.int (J (l + 1)))), (HC z (up2 (up2 α 69 l v) 68 1 (J (l + 1))) π β η o od)) := by
  have e1 : Run 34 0 [some (.ref (68))] [] (HC z α π β η o od) = some (.inl (some (.int (0))), (HC z α π β η o od)) := by rw [s34 hl (by omega), bi_f (by omega)]
  have e2 : Run 35 0 [some (.ref (68)), some (.int (v))] [] (HC z α π β η o od) = _ := s35 hl h150 v
  simp only [↓reduceIte, e105_0, e105_1, e105_4, e105_5, e105_7, e105_10, e105_21, e105_22, e105_25, e105_28, e105_31, e105_42, e105_43, e105_46, e105_47, e105_50, e105_51, e105_54, e105_57, gf8_6 kd3, isO68, hv.1, hv.2, le_not, e1, e2, gf5_1 kd68, up2_rr, aft_v, aft_n, Option.bind_some, rf_some, ck_i, ck_r, ck_n, nb0, nb1, nbi, Nat.reduceAdd, if_true, if_false, not_false_eq_true, not_true_eq_false]
theorem s105n {v : Int32} (hv : ¬ (¬ v < 0 ∧ ¬ 127 < v)) : Run 105 0 [some (.ref (3)), some (.int (v))] [] (HC z α π β η o od) = some (.inr "java/lang/IllegalArgumentException", HC (zb z) α π β η o od) := by
  by_cases q : v < 0
  · simp only [↓reduceIte, e105_0, e105_1, e105_4, e105_5, e105_7, e105_10, e105_21, e105_22, e105_25, e105_28, e105_31, e105_42, e105_43, e105_46, e105_47, e105_50, e105_51, e105_54, e105_57, q, hb_HC, aft_v, aft_n, Option.bind_some, rf_some, ck_i, ck_r, ck_n, nb0, nb1, nbi, Nat.reduceAdd, if_true, if_false, not_false_eq_true, not_true_eq_false]
  · have q2 : 127 < v := by by_cases x : 127 < v; exact x; exact absurd ⟨q, x⟩ hv
    simp only [↓reduceIte, e105_0, e105_1, e105_4, e105_5, e105_7, e105_10, e105_21, e105_22, e105_25, e105_28, e105_31, e105_42, e105_43, e105_46, e105_47, e105_50, e105_51, e105_54, e105_57, q, q2, le_not, hb_HC, aft_v, aft_n, Option.bind_some, rf_some, ck_i, ck_r, ck_n, nb0, nb1, nbi, Nat.reduceAdd, if_true, if_false, not_false_eq_true, not_true_eq_false]
theorem s105m (hl : α 68 1 = J l) (h150 : l = 150) {v : Int32} (hv : ¬ v < 0 ∧ ¬ 127 < v) : Run 105 0 [some (.ref (3)), some (.int (v))] [] (HC z α π β η o od) = some (.inr "java/lang/IllegalStateException", HC (zb z) α π β η o od) := by
  have e1 : Run 34 0 [some (.ref (68))] [] (HC z α π β η o od) = some (.inl (some (.int (1))), (HC z α π β η o od)) := by rw [s34 hl (by omega), bi_t h150]
  simp only [↓reduceIte, e105_0, e105_1, e105_4, e105_5, e105_7, e105_10, e105_21, e105_22, e105_25, e105_28, e105_31, e105_42, e105_43, e105_46, e105_47, e105_50, e105_51, e105_54, e105_57, gf8_6 kd3, isO68, hv.1, hv.2, le_not, e1, i1_0, hb_HC, aft_v, aft_n, Option.bind_some, rf_some, ck_i, ck_r, ck_n, nb0, nb1, nbi, Nat.reduceAdd, if_true, if_false, not_false_eq_true, not_true_eq_false]
theorem s106 : Run 106 0 [some (.ref (3)), none] [] (HC z α π β η o od) = some (.inl (some (.int (α 68 1))), (HC z (up2 α 68 1 0) π β η o od)) := by
  simp only [↓reduceIte, e106_0, e106_1, e106_4, e106_7, e106_8, e106_9, e106_12, e106_13, e106_16, e106_17, gf8_6 kd3, gf5_1 kd68, pf5_1 kd68, aft_v, aft_n, Option.bind_some, rf_some, ck_i, ck_r, ck_n, nb0, nb1, nbi, Nat.reduceAdd, if_true, if_false, not_false_eq_true, not_true_eq_false]
end S60
section S60m
variable {z : Zr} {α β γ : Mem} {π : Nat → Nat} {η : Int64} {o : Nat → Int64} {od : Nat → UInt64} {n l k : Nat}
theorem s205_l {c : Nat} (hc : c < 4) (hk : β 70 2 = J c) : ∀ k i, i + k = 270 → Run 205 37 [some (.ref (70)), some (.int (J i))] [] (HC z γ π (upA β 71 (rsW (β 71) (β 72) c i)) η o od) = Run 205 71 [some (.ref (70)), some (.int (J 270))] [] (HC z γ π (upA β 71 (rsW (β 71) (β 72) c 270)) η o od) := by
  intro k
  induction k with
  | zero =>
    intro i hi
    have : i = 270 := by omega
    subst this
    simp only [↓reduceIte, e205_0, e205_1, e205_2, e205_5, e205_8, e205_9, e205_12, e205_13, e205_16, e205_17, e205_20, e205_23, e205_24, e205_25, e205_26, e205_27, e205_30, e205_31, e205_32, e205_35, e205_36, e205_37, e205_38, e205_41, e205_44, e205_45, e205_48, e205_49, e205_50, e205_53, e205_56, e205_57, e205_60, e205_61, e205_62, e205_63, e205_64, e205_65, e205_68, e205_72, e205_75, J270, Int32.le_refl, aft_v, aft_n, Option.bind_some, rf_some, ck_i, ck_r, ck_n, nb0, nb1, nbi, Nat.reduceAdd, if_true, if_false, not_false_eq_true, not_true_eq_false]
  | succ k ih =>
    intro i hi
    rw [e205_37]
    have h70 : (upA β 71 (rsW (β 71) (β 72) c i)) 70 = β 70 := upA_ne _ (by decide) _
    have h72 : (upA β 71 (rsW (β 71) (β 72) c i)) 72 = β 72 := upA_ne _ (by decide) _
    simp only [↓reduceIte, e205_0, e205_1, e205_2, e205_5, e205_8, e205_9, e205_12, e205_13, e205_16, e205_17, e205_20, e205_23, e205_24, e205_25, e205_26, e205_27, e205_30, e205_31, e205_32, e205_35, e205_36, e205_38, e205_41, e205_44, e205_45, e205_48, e205_49, e205_50, e205_53, e205_56, e205_57, e205_60, e205_61, e205_62, e205_63, e205_64, e205_65, e205_68, e205_72, e205_75, J270, J_le (show 270 < 2147483648 by omega) (show i < 2147483648 by omega), show ¬ 270 ≤ i by omega, gf9_0 kd_70, gf9_1 kd_70, gf9_2 kd_70, h70, h72, hk, J_mul, J_add, gaI41 kd_72 (in72h (show 270 * c + i < 1080 by omega)), paI41 kd_71 (in71h (show i < 270 by omega)), J_tn (show i < 2147483648 by omega), J_tn (show 270 * c + i < 2147483648 by omega), up2_upAt, rsW_st, J_succ, ih (i + 1) (by omega), aft_v, aft_n, Option.bind_some, rf_some, ck_i, ck_r, ck_n, nb0, nb1, nbi, Nat.reduceAdd, if_true, if_false, not_false_eq_true, not_true_eq_false]
def undoB (β : Mem) (k : Nat) : Mem := upA (up2 (up2 β 70 5 0) 70 2 (J k)) 71 (rsW (β 71) (β 72) k 270)
theorem s205 (hk : β 70 2 = J (k + 1)) (h4 : k < 4) : Run 205 0 [some (.ref (70)), none] [] (HC z γ π β η o od) = some (.inl (some (.int (J k))), (HC z γ π (undoB β k) η o od)) := by
  have hk2 : up2 (up2 β 70 5 0) 70 2 (J k) 70 2 = J k := up2_rr ..
  have e := s205_l (z := z) (γ := γ) (π := π) (η := η) (o := o) (od := od) (β := up2 (up2 β 70 5 0) 70 2 (J k)) h4 hk2 270 0 (by omega)
  have h71 : up2 (up2 β 70 5 0) 70 2 (J k) 71 = β 71 := by rw [up2_ne _ (by decide), up2_ne _ (by decide)]
  have h72 : up2 (up2 β 70 5 0) 70 2 (J k) 72 = β 72 := by rw [up2_ne _ (by decide), up2_ne _ (by decide)]
  rw [rsW_0, upA_self, h71, h72, show J 0 = (0 : Int32) from rfl] at e
  have n0 : (J (k + 1) = 0) = False := eq_false (by rw [J0, J_eq (by omega) (by omega)]; omega)
  have e41 : J (k + 1) - 1 = J k := by rw [← J_succ, Int32.add_sub_cancel]
  have h5 : up2 β 70 5 0 70 2 = J (k + 1) := by rw [up2_rd _ _ _ _ _ (by decide)]; exact hk
  unfold undoB
  have hf : (upA (up2 (up2 β 70 5 0) 70 2 (J k)) 71 (rsW (β 71) (β 72) k 270)) 70 2 = J k := by rw [upA_ne _ (by decide)]; exact hk2
  simp only [↓reduceIte, e205_0, e205_1, e205_2, e205_5, e205_8, e205_9, e205_12, e205_13, e205_16, e205_17, e205_20, e205_23, e205_24, e205_25, e205_26, e205_27, e205_30, e205_31, e205_32, e205_35, e205_36, e205_38, e205_41, e205_44, e205_45, e205_48, e205_49, e205_50, e205_53, e205_56, e205_57, e205_60, e205_61, e205_62, e205_63, e205_64, e205_65, e205_68, e205_72, e205_75, gf9_2 kd_70, gf9_5 kd_70, hk, n0, pf9_5 kd_70, up2_rr, h5, e41, pf9_2 kd_70, e, aft_v, aft_n, Option.bind_some, rf_some, ck_i, ck_r, ck_n, nb0, nb1, nbi, Nat.reduceAdd, if_true, if_false, not_false_eq_true, not_true_eq_false]
  simp only [↓reduceIte, e205_0, e205_1, e205_2, e205_5, e205_8, e205_9, e205_12, e205_13, e205_16, e205_17, e205_20, e205_23, e205_24, e205_25, e205_26, e205_27, e205_30, e205_31, e205_32, e205_35, e205_36, e205_38, e205_41, e205_44, e205_45, e205_48, e205_49, e205_50, e205_53, e205_56, e205_57, e205_60, e205_61, e205_62, e205_63, e205_64, e205_65, e205_68, e205_71, e205_72, e205_75, gf9_2 kd_70, hf, aft_v, aft_n, Option.bind_some, rf_some, ck_i, ck_r, ck_n, nb0, nb1, nbi, Nat.reduceAdd, if_true, if_false, not_false_eq_true, not_true_eq_false]
theorem s205n (hk : β 70 2 = J 0) : Run 205 0 [some (.ref (70)), none] [] (HC z γ π β η o od) = some (.inl (some (.int (0))), (HC z γ π (up2 β 70 5 1) η o od)) := by
  simp only [↓reduceIte, e205_0, e205_1, e205_2, e205_5, e205_8, e205_9, e205_12, e205_13, e205_16, e205_17, e205_20, e205_23, e205_24, e205_25, e205_26, e205_27, e205_30, e205_31, e205_32, e205_35, e205_36, e205_38, e205_41, e205_44, e205_45, e205_48, e205_49, e205_50, e205_53, e205_56, e205_57, e205_60, e205_61, e205_62, e205_63, e205_64, e205_65, e205_68, e205_71, e205_72, e205_75, gf9_2 kd_70, gf9_5 kd_70, hk, show J 0 = (0 : Int32) from rfl, i1_0, pf9_5 kd_70, up2_rr, aft_v, aft_n, Option.bind_some, rf_some, ck_i, ck_r, ck_n, nb0, nb1, nbi, Nat.reduceAdd, if_true, if_false, not_false_eq_true, not_true_eq_false]
theorem s195 (hl : β 70 4 = J l) (h150 : l < 150) {v : Int32} (hv : ¬ v < 0 ∧ ¬ 127 < v) : Run 195 0 [some (.ref (70)), some (.int (v))] [] (HC z γ π β η o od) = some (.inl (some (.int (J (l + 1)))), (HC z γ π (up2 (up2 (up2 β 70 5 0) 73 l v) 70 4 (J (l + 1))) η o od)) := by
  have n1 : (J l = 150) = False := eq_false (by rw [J150, J_eq (by omega) (by omega)]; omega)
  have h4 : up2 β 70 5 0 70 4 = J l := by rw [up2_rd _ _ _ _ _ (by decide)]; exact hl
  have h4' : (up2 (up2 β 70 5 0) 73 l v) 70 4 = J l := by rw [up2_ne _ (by decide)]; exact h4
  have hi : inB (J l) (aln 73) = true := by rw [al73]; exact inB_J h150 (by omega)
  simp only [↓reduceIte, e195_0, e195_1, e195_2, e195_3, e195_5, e195_8, e195_11, e195_12, e195_15, e195_16, e195_19, e195_22, e195_25, e195_26, e195_29, e195_30, e195_33, e195_34, e195_37, e195_40, e195_41, e195_42, e195_43, e195_46, e195_47, e195_50, e195_51, e195_52, e195_53, e195_54, e195_57, e195_58, e195_59, e195_62, e195_63, e195_66, s118, bi_t hv, i1_0, gf9_4 kd_70, gf9_5 kd_70, gf9_3 kd_70, hl, n1, pf9_5 kd_70, up2_rr, h4, paI41 kd_73 hi, J_tn (show l < 2147483648 by omega), h4', J_succ, pf9_4 kd_70, aft_v, aft_n, Option.bind_some, rf_some, ck_i, ck_r, ck_n, nb0, nb1, nbi, Nat.reduceAdd, if_true, if_false, not_false_eq_true, not_true_eq_false]
theorem s195n {v : Int32} (hv : ¬ (¬ v < 0 ∧ ¬ 127 < v)) : Run 195 0 [some (.ref (70)), some (.int (v))] [] (HC z γ π β η o od) = some (.inl (some (.int (0))), (HC z γ π (up2 β 70 5 1) η o od)) := by
  simp only [↓reduceIte, e195_0, e195_1, e195_2, e195_3, e195_5, e195_8, e195_11, e195_12, e195_15, e195_16, e195_19, e195_22, e195_25, e195_26, e195_29, e195_30, e195_33, e195_34, e195_37, e195_40, e195_41, e195_42, e195_43, e195_46, e195_47, e195_50, e195_51, e195_52, e195_53, e195_54, e195_57, e195_58, e195_59, e195_62, e195_63, e195_66, s118, bi_f hv, i1_0, gf9_5 kd_70, pf9_5 kd_70, up2_rr, aft_v, aft_n, Option.bind_some, rf_some, ck_i, ck_r, ck_n, nb0, nb1, nbi, Nat.reduceAdd, if_true, if_false, not_false_eq_true, not_true_eq_false]
theorem s195m (hl : β 70 4 = J l) (h150 : l = 150) {v : Int32} (hv : ¬ v < 0 ∧ ¬ 127 < v) : Run 195 0 [some (.ref (70)), some (.int (v))] [] (HC z γ π β η o od) = some (.inl (some (.int (0))), (HC z γ π (up2 β 70 5 2) η o od)) := by
  have n1 : (J l = 150) = True := eq_true (by rw [h150]; rfl)
  simp only [↓reduceIte, e195_0, e195_1, e195_2, e195_3, e195_5, e195_8, e195_11, e195_12, e195_15, e195_16, e195_19, e195_22, e195_25, e195_26, e195_29, e195_30, e195_33, e195_34, e195_37, e195_40, e195_41, e195_42, e195_43, e195_46, e195_47, e195_50, e195_51, e195_52, e195_53, e195_54, e195_57, e195_58, e195_59, e195_62, e195_63, e195_66, s118, bi_t hv, i1_0, ln2_0, gf9_4 kd_70, gf9_5 kd_70, hl, n1, pf9_5 kd_70, up2_rr, aft_v, aft_n, Option.bind_some, rf_some, ck_i, ck_r, ck_n, nb0, nb1, nbi, Nat.reduceAdd, if_true, if_false, not_false_eq_true, not_true_eq_false]
theorem s196 : Run 196 0 [some (.ref (70)), none] [] (HC z γ π β η o od) = some (.inl (some (.int (β 70 4))), (HC z γ π (up2 (up2 β 70 5 0) 70 4 0) η o od)) := by
  simp only [↓reduceIte, e196_0, e196_1, e196_2, e196_5, e196_6, e196_9, e196_10, e196_11, e196_12, e196_15, e196_16, gf9_4 kd_70, pf9_4 kd_70, pf9_5 kd_70, up2_rd _ _ _ _ _ (show (4 : Nat) ≠ 5 by decide), aft_v, aft_n, Option.bind_some, rf_some, ck_i, ck_r, ck_n, nb0, nb1, nbi, Nat.reduceAdd, if_true, if_false, not_false_eq_true, not_true_eq_false]
end S60m
section S60o
variable {z : Zr} {α β γ : Mem} {π : Nat → Nat} {η : Int64} {o : Nat → Int64} {od : Nat → UInt64} {n l k : Nat}
theorem op_undo (I : Inv α π β n l k) : Res (fun hh => Run 235 0 [some (.ref (3)), some (.ref (75)), none] [] hh) (fun hh => Run 205 0 [some (.ref (70)), none] [] hh) z α π β η o od := by
  cases k with
  | zero => exact Res_thr (kk := 1) (by decide) (w235_x1 (s108n I.k1)) (s205n I.k2) I
  | succ k =>
    have h4 := I.k4
    obtain ⟨-, -, -, ⟨t1, t2, t3, t4⟩, h1, h2, h3, hse, h5, h6⟩ := id I
    obtain ⟨m, m1, m2, m3⟩ := h6 k (by omega)
    have hb := hse k (by omega)
    have hbb := sea_lt hb.1 hb.2
    have m8 := m1.n8
    have go : ∀ j, j ≠ 15 → 14 < j → seaW (up2 α 15 1 (J k)) 4 (π k) m j = α j := fun j q w => by rw [seaW_o _ m8 (by omega), up2_ne _ q]
    have hsm : Sm (seaW (up2 α 15 1 (J k)) 4 (π k) m) (shA α (π k)) m := by
      refine ⟨fun q hq => ?_, fun q hq => ?_, fun i hi q hq => ?_⟩
      · rw [seaW_h _ _ _ _ hq, up2_ne _ (by omega)]; rfl
      · show seaW (up2 α 15 1 (J k)) 4 (π k) m (4 + 1) q = α (π k + 1) q
        rw [seaW_r _ _ _ _ hq, up2_ne _ (by omega)]
      · show seaW (up2 α 15 1 (J k)) 4 (π k) m (7 + i) q = α (π k + (7 + i - 4)) q
        rw [show 7 + i = 4 + 3 + i by omega, seaW_s _ _ _ _ hi hq, up2_ne _ (by omega), show 4 + 3 + i - 4 = 3 + i by omega, Nat.add_assoc]
    refine Res_m (n := m) (l := l) (k := k) (w235_ok (s108 hse h1 (by omega) m1)) (s205 h3 (by omega)) ?_ ?_
    · unfold undoB; rw [upA_ne _ (by decide), up2_rd _ _ _ _ _ (by decide), up2_rr]
    · have b73 : undoB β k 73 = β 73 := by unfold undoB; rw [upA_ne _ (by decide), up2_ne _ (by decide), up2_ne _ (by decide)]
      have b72 : undoB β k 72 = β 72 := by unfold undoB; rw [upA_ne _ (by decide), up2_ne _ (by decide), up2_ne _ (by decide)]
      have b704 : undoB β k 70 4 = β 70 4 := by unfold undoB; rw [upA_ne _ (by decide), up2_rd _ _ _ _ _ (by decide), up2_rd _ _ _ _ _ (by decide)]
      refine ⟨Ok_sm hsm m1, Dj_sm hsm m2, Rm_sm m8 hsm (fun q hq => ?_) m3, ⟨by rw [go 68 (by decide) (by decide)]; exact t1, t2, by rw [b704]; exact t3, fun i hi => by rw [b73, go 69 (by decide) (by decide)]; exact t4 i hi⟩, ?_, by omega, ?_, hse, h5, fun j hj => ?_⟩
      · unfold undoB
        rw [upA_at]
        unfold rsW
        rw [if_pos hq]
      · rw [seaW_o _ m8 (by omega), up2_rr]
      · unfold undoB; rw [upA_ne _ (by decide), up2_rr]
      · obtain ⟨q, q1, q2, q3⟩ := h6 j (by omega)
        have hj2 := sea_lt (hse j (by omega)).1 (hse j (by omega)).2
        have s2 : Sm (shA (seaW (up2 α 15 1 (J k)) 4 (π k) m) (π j)) (shA α (π j)) q := Sm_of q1.n8 (fun x x1 x2 => go _ (by omega) (by omega))
        refine ⟨q, Ok_sm s2 q1, Dj_sm s2 q2, Rm_sm q1.n8 s2 (fun x _ => ?_) q3⟩
        rw [b72]
theorem op_append (I : Inv α π β n l k) (v : Int32) : Res (fun hh => Run 234 0 [some (.ref (3)), some (.int (v)), some (.ref (75)), none] [] hh) (fun hh => Run 195 0 [some (.ref (70)), some (.int (v))] [] hh) z α π β η o od := by
  obtain ⟨H, D, R, ⟨t1, t2, t3, t4⟩, h1, h2, h3, hse, h5, h6⟩ := id I
  by_cases q : ¬ v < 0 ∧ ¬ 127 < v
  · by_cases w : l = 150
    · exact Res_thr (kk := 2) (by decide) (w234_x2 _ (s105m t1 w q)) (s195m t3 w q) I
    · refine Res_m (n := n) (l := l + 1) (k := k) (w234_ok _ (s105 t1 (by omega) q)) (s195 t3 (by omega) q) ?_ ?_
      · rw [up2_rd _ _ _ _ _ (by decide), up2_ne _ (by decide), up2_rr]
      · have go : ∀ j, j < 68 → up2 (up2 α 69 l v) 68 1 (J (l + 1)) j = α j := fun j hj => by rw [up2_ne _ (by omega), up2_ne _ (by omega)]
        have b71 : up2 (up2 (up2 β 70 5 0) 73 l v) 70 4 (J (l + 1)) 71 = β 71 := by rw [up2_ne _ (by decide), up2_ne _ (by decide), up2_ne _ (by decide)]
        have b72 : up2 (up2 (up2 β 70 5 0) 73 l v) 70 4 (J (l + 1)) 72 = β 72 := by rw [up2_ne _ (by decide), up2_ne _ (by decide), up2_ne _ (by decide)]
        have hsm : Sm (up2 (up2 α 69 l v) 68 1 (J (l + 1))) α n := Sm_of H.n8 (fun j q1 q2 => go j (by omega))
        refine ⟨Ok_sm hsm H, Dj_sm hsm D, by rw [b71]; exact Rm_sm H.n8 hsm (fun _ _ => rfl) R, ⟨up2_rr .., by omega, up2_rr .., fun i hi => ?_⟩, by rw [go 15 (by decide)]; exact h1, h2, ?_, hse, h5, fun j hj => ?_⟩
        · rw [up2_ne _ (by decide), up2_a, up2_ne _ (by decide), up2_ne _ (by decide), up2_a]
          by_cases e : i = l
          · rw [if_pos e, if_pos e]
          · rw [if_neg e, if_neg e]
            exact t4 i (by omega)
        · rw [up2_rd _ _ _ _ _ (by decide), up2_ne _ (by decide), up2_rd _ _ _ _ _ (by decide)]; exact h3
        · obtain ⟨q, q1, q2, q3⟩ := h6 j (by omega)
          have hj2 := sea_lt (hse j (by omega)).1 (hse j (by omega)).2
          have s2 : Sm (shA (up2 (up2 α 69 l v) 68 1 (J (l + 1))) (π j)) (shA α (π j)) q := Sm_of q1.n8 (fun x x1 x2 => go _ (by omega))
          refine ⟨q, Ok_sm s2 q1, Dj_sm s2 q2, Rm_sm q1.n8 s2 (fun x _ => ?_) q3⟩
          rw [b72]
  · exact Res_thr (kk := 1) (by decide) (w234_x1 _ (s105n q)) (s195n q) I
theorem op_clear (I : Inv α π β n l k) : Res2 (fun hh => Run 106 0 [some (.ref (3)), none] [] hh) (fun hh => Run 196 0 [some (.ref (70)), none] [] hh) z α π β η o od := by
  obtain ⟨H, D, R, ⟨t1, t2, t3, t4⟩, h1, h2, h3, hse, h5, h6⟩ := id I
  refine ⟨α 68 1, up2 α 68 1 0, π, up2 (up2 β 70 5 0) 70 4 0, n, 0, k, s106, ?_, ?_⟩
  · rw [t1, ← t3]; exact s196
  · have go : ∀ j, j < 68 → up2 α 68 1 0 j = α j := fun j hj => up2_ne _ (by omega) _ _
    have b71 : up2 (up2 β 70 5 0) 70 4 0 71 = β 71 := by rw [up2_ne _ (by decide), up2_ne _ (by decide)]
    have b72 : up2 (up2 β 70 5 0) 70 4 0 72 = β 72 := by rw [up2_ne _ (by decide), up2_ne _ (by decide)]
    have hsm : Sm (up2 α 68 1 0) α n := Sm_of H.n8 (fun j q1 q2 => go j (by omega))
    refine ⟨Ok_sm hsm H, Dj_sm hsm D, by rw [b71]; exact Rm_sm H.n8 hsm (fun _ _ => rfl) R, ⟨up2_rr .., by omega, up2_rr .., fun i hi => absurd hi (Nat.not_lt_zero i)⟩, by rw [go 15 (by decide)]; exact h1, h2, ?_, hse, h5, fun j hj => ?_⟩
    · rw [up2_rd _ _ _ _ _ (by decide), up2_rd _ _ _ _ _ (by decide)]; exact h3
    · obtain ⟨q, q1, q2, q3⟩ := h6 j (by omega)
      have hj2 := sea_lt (hse j (by omega)).1 (hse j (by omega)).2
      have s2 : Sm (shA (up2 α 68 1 0) (π j)) (shA α (π j)) q := Sm_of q1.n8 (fun x x1 x2 => go _ (by omega))
      refine ⟨q, Ok_sm s2 q1, Dj_sm s2 q2, Rm_sm q1.n8 s2 (fun x _ => ?_) q3⟩
      rw [b72]
theorem op_endRound (I : Inv α π β n l k) : Res2 (fun hh => Run 94 0 [some (.ref (3))] [] hh) (fun hh => Run 167 0 [some (.ref (70))] [] hh) z α π β η o od := by
  have h8 := I.1.n8
  have Q := Inv_kept I
  obtain ⟨β', g1, g2, g3⟩ := s166 (z := z) (γ := finC (saveC α π n k) n) (π := saveP π k) (η := η) (o := o) (od := od) Q.1 Q.2.2.1
  refine ⟨(dr1 n n 0 (saveC α π n k) 0).2, finC (saveC α π n k) n, saveP π k, β', n, l, saveK k + 1, s94 I.1 I.se I.k1 I.k4, ?_, Inv_up Q (Fs_fin h8) (Ok_fin Q.1) (Dj_fin Q.1 Q.2.1) g2 (Mq_md g3)⟩
  simp only [↓reduceIte, e167_0, e167_1, e167_2, e167_5, e167_6, e167_9, e167_10, e167_13, isO70, pf9_5 kd_70, kept I.k2 I.k4, g1, aft_v, aft_n, Option.bind_some, rf_some, ck_i, ck_r, ck_n, nb0, nb1, nbi, Nat.reduceAdd, if_true, if_false, not_false_eq_true, not_true_eq_false]
end S60o
