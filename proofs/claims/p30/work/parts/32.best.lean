/-! boarding, orders, the best shot -/
def seizeC (α : Mem) (i j : Nat) : Mem :=
  let go := mnC ((α (7 + i) 7 + 3) / 4) (α (7 + i) 7 - 1)
  looseC (up2 (up2 (up2 α (7 + i) 7 (α (7 + i) 7 - go)) (7 + j) 7 (mxC 1 go)) (7 + j) 0 (α (7 + i) 0)) (7 + i)
def stormA (α : Mem) (i j : Nat) : Mem := up2 (up2 (up2 α (7 + j) 7 (α (7 + j) 7 - (α (7 + i) 7 + 2) / 3)) (7 + i) 7 (mxC 1 (α (7 + i) 7 - (α (7 + j) 7 + 3) / 4))) (7 + i) 13 1
def stormC (α : Mem) (i j : Nat) : Mem := if 0 < α (7 + j) 7 - (α (7 + i) 7 + 2) / 3 then stormA α i j else seizeC (stormA α i j) i j
/-- one side of the best shot: ship j, guns g, behind b and f -/
def bsF (α : Mem) (n i : Nat) (j : Nat) (g : Int32) (b : Int32 × Int32) : Int32 × Int32 := if b.2 < forceC α n i g j then (2 * J j + g, forceC α n i g j) else b
def bsL (α : Mem) (n i : Nat) : Nat → Nat → Int32 × Int32 → Int32 × Int32
  | 0, _, b => b
  | k + 1, j, b => bsL α n i k (j + 1) (bsF α n i j 1 (bsF α n i j 0 b))
theorem i01 : (0 : Int32) + 1 = 1 := by decide
theorem i11 : (1 : Int32) + 1 = 2 := by decide
theorem l10 : ((1 : Int32) < 0) = False := eq_false (by decide)
theorem l11 : ((1 : Int32) < 1) = False := eq_false (by decide)
theorem l12 : ((1 : Int32) < 2) = True := eq_true (by decide)
theorem ifp {p : Prop} [Decidable p] {a b c : Int32} : some (Sum.inl (β := String) (some (Value.int (if p then a else b)))) = if p then some (Sum.inl (some (Value.int a))) else some (Sum.inl (some (Value.int b))) := by split <;> rfl
section S32
variable {z : Zr} {α β γ : Mem} {π : Nat → Nat} {η : Int64} {o : Nat → Int64} {od : Nat → UInt64} {n : Nat}
theorem s9 (hn : α 4 5 = J n) (h8 : n ≤ 8) {i j : Nat} (hi : i < n) (hj : j < n) (hij : j ≠ i) (hp : α (7 + i) 12 = -1 ∨ ∃ k, k < n ∧ α (7 + i) 12 = J k) : Run 9 0 [some (.ref (63)), some (.ref (7 + i)), some (.ref (7 + j)), none, none] [] (HC z α π β η o od) = some (.inl none, (HC z (seizeC α i j) π β η o od)) := by
  have ki := kd_ship (show i < 8 by omega)
  have kj := kd_ship (show j < 8 by omega)
  have h1 : 7 + i ≠ 7 + j := by omega
  have hu : Run 62 0 [some (.ref (4)), some (.ref (7 + i))] [] (HC z (up2 (up2 (up2 α (7 + i) 7 (α (7 + i) 7 - mnC ((α (7 + i) 7 + 3) / 4) (α (7 + i) 7 - 1))) (7 + j) 7 (mxC 1 (mnC ((α (7 + i) 7 + 3) / 4) (α (7 + i) 7 - 1)))) (7 + j) 0 (α (7 + i) 0)) π β η o od) = _ := s62 (n := n) (by rw [up2_4, up2_4, up2_4]; exact hn) h8 ki (by rw [up2_ne _ h1, up2_ne _ h1, u7_12]; exact hp)
  simp only [e9_0, e9_1, e9_4, e9_5, e9_6, e9_7, e9_8, e9_9, e9_10, e9_11, e9_12, e9_13, e9_16, e9_18, e9_19, e9_20, e9_22, e9_23, e9_26, e9_27, e9_28, e9_30, e9_33, e9_36, e9_37, e9_38, e9_41, e9_44, e9_45, e9_48, e9_49, e9_52, gf1_0 kd63, isO4, gf7_7 ki, gf7_0 ki, t210, t211, pf7_7 ki, pf7_7 kj, pf7_0 kj, up2_ne _ h1, u7_0, hu, show ¬ (4 : Int32) = 0 by decide, aft_v, aft_n, Option.bind_some, rf_some, ck_i, ck_r, ck_n, nb0, nb1, nbi, Nat.reduceAdd, if_true, if_false, not_false_eq_true, not_true_eq_false]
  rfl
theorem s8 (H : Ok α n) {i j : Nat} (hi : i < n) (hj : j < n) (hij : j ≠ i) : Run 8 0 [some (.ref (63)), some (.ref (7 + i)), some (.ref (7 + j)), none, none] [] (HC z α π β η o od) = some (.inl (some (.int (if 0 < α (7 + j) 7 - (α (7 + i) 7 + 2) / 3 then 0 else 1))), (HC z (stormC α i j) π β η o od)) := by
  have h8 := H.n8
  have ki := kd_ship (show i < 8 by omega)
  have kj := kd_ship (show j < 8 by omega)
  have h1 : 7 + i ≠ 7 + j := by omega
  have h2 : 7 + j ≠ 7 + i := by omega
  have hs : Run 9 0 [some (.ref (63)), some (.ref (7 + i)), some (.ref (7 + j)), none, none] [] (HC z (stormA α i j) π β η o od) = _ := s9 (n := n) (by unfold stormA; rw [up2_4, up2_4, up2_4]; exact H.hn) h8 hi hj hij (by unfold stormA; rw [u13_12, u7_12, up2_ne _ h1]; exact H.pt hi)
  unfold stormC
  by_cases q : 0 < α (7 + j) 7 - (α (7 + i) 7 + 2) / 3
  · simp only [e8_0, e8_1, e8_4, e8_5, e8_6, e8_9, e8_11, e8_12, e8_14, e8_15, e8_16, e8_17, e8_18, e8_19, e8_20, e8_23, e8_24, e8_25, e8_26, e8_28, e8_29, e8_30, e8_31, e8_32, e8_33, e8_36, e8_39, e8_40, e8_41, e8_44, e8_45, e8_48, e8_51, e8_52, e8_53, e8_54, e8_55, e8_56, e8_59, e8_60, gf1_0 kd63, isO63, isS (show i < 8 by omega), isS (show j < 8 by omega), gf7_7 ki, gf7_7 kj, t210, pf7_7 ki, pf7_7 kj, pf7_13 ki (Or.inr rfl), up2_ne _ h1, up2_ne _ h2, up2_rr, q, le_not, show ¬ (4 : Int32) = 0 by decide, show ¬ (3 : Int32) = 0 by decide, aft_v, aft_n, Option.bind_some, rf_some, ck_i, ck_r, ck_n, nb0, nb1, nbi, Nat.reduceAdd, if_true, if_false, not_false_eq_true, not_true_eq_false]
    rfl
  · unfold stormA at hs ⊢
    simp only [e8_0, e8_1, e8_4, e8_5, e8_6, e8_9, e8_11, e8_12, e8_14, e8_15, e8_16, e8_17, e8_18, e8_19, e8_20, e8_23, e8_24, e8_25, e8_26, e8_28, e8_29, e8_30, e8_31, e8_32, e8_33, e8_36, e8_39, e8_40, e8_41, e8_44, e8_45, e8_48, e8_51, e8_52, e8_53, e8_54, e8_55, e8_56, e8_59, e8_60, gf1_0 kd63, isO63, isS (show i < 8 by omega), isS (show j < 8 by omega), gf7_7 ki, gf7_7 kj, t210, pf7_7 ki, pf7_7 kj, pf7_13 ki (Or.inr rfl), up2_ne _ h1, up2_ne _ h2, up2_rr, q, le_not, hs, show ¬ (4 : Int32) = 0 by decide, show ¬ (3 : Int32) = 0 by decide, aft_v, aft_n, Option.bind_some, rf_some, ck_i, ck_r, ck_n, nb0, nb1, nbi, Nat.reduceAdd, if_true, if_false, not_false_eq_true, not_true_eq_false]
theorem s27 (H : Ok α n) {i : Nat} (hi : i < n) : Run 27 0 [some (.ref (61)), some (.ref (7 + i))] [] (HC z α π β η o od) = if canMoveC α n i then some (.inl (some (.int (1))), (HC z (moveC α i) π β η o od)) else some (.inl (some (.int (0))), (HC z α π β η o od)) := by
  have h8 := H.n8
  have hm : Run 20 0 [some (.ref (61)), some (.ref (7 + i))] [] (HC z α π β η o od) = _ := s20 H hi
  have hv : Run 21 0 [some (.ref (61)), some (.ref (7 + i))] [] (HC z α π β η o od) = _ := s21 H hi
  by_cases q : canMoveC α n i
  · rw [bi_t q] at hm
    rw [if_pos q]
    simp only [e27_0, e27_1, e27_2, e27_5, e27_8, e27_9, e27_10, e27_11, e27_12, e27_15, e27_16, isO61, hm, hv, i1_0, aft_v, aft_n, Option.bind_some, rf_some, ck_i, ck_r, ck_n, nb0, nb1, nbi, Nat.reduceAdd, if_true, if_false, not_false_eq_true, not_true_eq_false]
  · rw [bi_f q] at hm
    rw [if_neg q]
    simp only [e27_0, e27_1, e27_2, e27_5, e27_8, e27_9, e27_10, e27_11, e27_12, e27_15, e27_16, isO61, hm, hv, aft_v, aft_n, Option.bind_some, rf_some, ck_i, ck_r, ck_n, nb0, nb1, nbi, Nat.reduceAdd, if_true, if_false, not_false_eq_true, not_true_eq_false]
theorem s28 (H : Ok α n) {i : Nat} (hi : i < n) {r : Int32} (hr : r = 0 ∨ r = 1) : Run 28 0 [some (.ref (61)), some (.ref (7 + i)), some (.int (r))] [] (HC z α π β η o od) = if canSwingC α i r then some (.inl (some (.int (1))), (HC z (swingC α (7 + i) (J (hdN (hdA α (7 + i)) r))) π β η o od)) else some (.inl (some (.int (0))), (HC z α π β η o od)) := by
  have h8 := H.n8
  have hd := H.hdJ hi
  have hm : Run 22 0 [some (.ref (61)), some (.ref (7 + i)), some (.int (r))] [] (HC z α π β η o od) = _ := s22 H hi hr
  have hv : Run 77 0 [some (.ref (7 + i)), some (.int (r))] [] (HC z α π β η o od) = _ := s77 (kd_ship (show i < 8 by omega)) hd.1 hd.2 hr
  by_cases q : canSwingC α i r
  · rw [bi_t q] at hm
    rw [if_pos q]
    simp only [e28_0, e28_1, e28_2, e28_3, e28_6, e28_9, e28_10, e28_11, e28_12, e28_13, e28_16, e28_17, isO61, isS (show i < 8 by omega), hm, hv, i1_0, aft_v, aft_n, Option.bind_some, rf_some, ck_i, ck_r, ck_n, nb0, nb1, nbi, Nat.reduceAdd, if_true, if_false, not_false_eq_true, not_true_eq_false]
  · rw [bi_f q] at hm
    rw [if_neg q]
    simp only [e28_0, e28_1, e28_2, e28_3, e28_6, e28_9, e28_10, e28_11, e28_12, e28_13, e28_16, e28_17, isO61, hm, hv, aft_v, aft_n, Option.bind_some, rf_some, ck_i, ck_r, ck_n, nb0, nb1, nbi, Nat.reduceAdd, if_true, if_false, not_false_eq_true, not_true_eq_false]
theorem s18_l (H : Ok α n) {i : Nat} (hi : i < n) : ∀ k j (b : Int32 × Int32) (u5 u6 : Option Value), j + k = n → Run 18 7 [some (.ref (62)), some (.ref (7 + i)), some (.int (b.1)), some (.int (b.2)), some (.int (J j)), u5, u6] [] (HC z α π β η o od) = some (.inl (some (.int ((bsL α n i k j b).1))), (HC z α π β η o od)) := by
  have h8 := H.n8
  intro k
  induction k with
  | zero =>
    intro j b u5 u6 hj
    simp only [↓reduceIte, e18_0, e18_1, e18_2, e18_3, e18_4, e18_5, e18_7, e18_9, e18_10, e18_13, e18_16, e18_19, e18_21, e18_23, e18_26, e18_27, e18_29, e18_31, e18_32, e18_35, e18_36, e18_37, e18_39, e18_40, e18_43, e18_44, e18_47, e18_48, e18_49, e18_52, e18_55, e18_57, e18_58, e18_61, e18_63, e18_65, e18_66, e18_69, e18_71, e18_72, e18_73, e18_75, e18_76, e18_78, e18_79, e18_80, e18_83, e18_86, e18_89, e18_92, e18_93, gf2_0 kd62, J_le (show n < 2147483648 by omega) (show j < 2147483648 by omega), show n ≤ j by omega, gf6_5 kd4, H.hn, bsL, aft_v, aft_n, Option.bind_some, rf_some, ck_i, ck_r, ck_n, nb0, nb1, nbi, Nat.reduceAdd, if_true, if_false, not_false_eq_true, not_true_eq_false]
  | succ k ih =>
    intro j b u5 u6 hj
    rw [e18_7]
    have f0 : Run 14 0 [some (.ref (62)), some (.ref (7 + i)), some (.int (0)), some (.ref (7 + j)), none, none, none] [] (HC z α π β η o od) = _ := s14 H hi (show j < n by omega) (Or.inl rfl)
    have f1 : Run 14 0 [some (.ref (62)), some (.ref (7 + i)), some (.int (1)), some (.ref (7 + j)), none, none, none] [] (HC z α π β η o od) = _ := s14 H hi (show j < n by omega) (Or.inr rfl)
    simp only [bsL]
    rw [← ih (j + 1) _ (some (.int 2)) (some (.int (forceC α n i 1 j))) (by omega)]
    unfold bsF
    by_cases q0 : b.2 < forceC α n i 0 j
    · by_cases q1 : forceC α n i 0 j < forceC α n i 1 j <;> simp only [↓reduceIte, e18_0, e18_1, e18_2, e18_3, e18_4, e18_5, e18_9, e18_10, e18_13, e18_16, e18_19, e18_21, e18_23, e18_26, e18_27, e18_29, e18_31, e18_32, e18_35, e18_36, e18_37, e18_39, e18_40, e18_43, e18_44, e18_47, e18_48, e18_49, e18_52, e18_55, e18_57, e18_58, e18_61, e18_63, e18_65, e18_66, e18_69, e18_71, e18_72, e18_73, e18_75, e18_76, e18_78, e18_79, e18_80, e18_83, e18_86, e18_89, e18_92, e18_93, gf2_0 kd62, isO62, isS (show i < 8 by omega), isS (show j < 8 by omega), J_le (show n < 2147483648 by omega) (show j < 2147483648 by omega), show ¬ n ≤ j by omega, (show (8 : Int32) = J 8 from rfl), J_le (show 8 < 2147483648 by omega) (show j < 2147483648 by omega), show ¬ 8 ≤ j by omega, gaR21 kd6 (inB_J (show j < 8 by omega) (by omega)), J_tn (show j < 2147483648 by omega), J_succ, gf6_5 kd4, gf6_7 kd4, H.hn, f0, f1, q0, q1, le_not, i01, i11, l10, l11, l12, ln0_1, ln0_2, ln0_3, ln0_4, ln0_5, ln1_0, ln1_2, ln1_3, ln1_4, ln1_5, ln2_0, ln2_1, ln2_3, ln2_4, ln2_5, ln3_0, ln3_1, ln3_2, ln3_4, ln3_5, ln4_0, ln4_1, ln4_2, ln4_3, ln4_5, ln5_0, ln5_1, ln5_2, ln5_3, ln5_4, aft_v, aft_n, Option.bind_some, rf_some, ck_i, ck_r, ck_n, nb0, nb1, nbi, Nat.reduceAdd, if_true, if_false, not_false_eq_true, not_true_eq_false]
    · by_cases q1 : b.2 < forceC α n i 1 j <;> simp only [↓reduceIte, e18_0, e18_1, e18_2, e18_3, e18_4, e18_5, e18_9, e18_10, e18_13, e18_16, e18_19, e18_21, e18_23, e18_26, e18_27, e18_29, e18_31, e18_32, e18_35, e18_36, e18_37, e18_39, e18_40, e18_43, e18_44, e18_47, e18_48, e18_49, e18_52, e18_55, e18_57, e18_58, e18_61, e18_63, e18_65, e18_66, e18_69, e18_71, e18_72, e18_73, e18_75, e18_76, e18_78, e18_79, e18_80, e18_83, e18_86, e18_89, e18_92, e18_93, gf2_0 kd62, isO62, isS (show i < 8 by omega), isS (show j < 8 by omega), J_le (show n < 2147483648 by omega) (show j < 2147483648 by omega), show ¬ n ≤ j by omega, (show (8 : Int32) = J 8 from rfl), J_le (show 8 < 2147483648 by omega) (show j < 2147483648 by omega), show ¬ 8 ≤ j by omega, gaR21 kd6 (inB_J (show j < 8 by omega) (by omega)), J_tn (show j < 2147483648 by omega), J_succ, gf6_5 kd4, gf6_7 kd4, H.hn, f0, f1, q0, q1, le_not, i01, i11, l10, l11, l12, ln0_1, ln0_2, ln0_3, ln0_4, ln0_5, ln1_0, ln1_2, ln1_3, ln1_4, ln1_5, ln2_0, ln2_1, ln2_3, ln2_4, ln2_5, ln3_0, ln3_1, ln3_2, ln3_4, ln3_5, ln4_0, ln4_1, ln4_2, ln4_3, ln4_5, ln5_0, ln5_1, ln5_2, ln5_3, ln5_4, aft_v, aft_n, Option.bind_some, rf_some, ck_i, ck_r, ck_n, nb0, nb1, nbi, Nat.reduceAdd, if_true, if_false, not_false_eq_true, not_true_eq_false]
theorem s18 (H : Ok α n) {i : Nat} (hi : i < n) : Run 18 0 [some (.ref (62)), some (.ref (7 + i)), none, none, none, none, none] [] (HC z α π β η o od) = some (.inl (some (.int ((bsL α n i n 0 (-1, 0)).1))), (HC z α π β η o od)) := by
  rw [← s18_l H hi n 0 (-1, 0) none none (by omega)]
  simp only [↓reduceIte, e18_0, e18_1, e18_2, e18_3, e18_4, e18_5, show J 0 = (0 : Int32) from rfl, aft_v, aft_n, Option.bind_some, rf_some, ck_i, ck_r, ck_n, nb0, nb1, nbi, Nat.reduceAdd, if_true, if_false, not_false_eq_true, not_true_eq_false]
end S32
