/-! orders: how both read the text -/
def byT (tx : Nat → Int32) (l i : Nat) : Int32 := if i < l then tx i else -1
abbrev dg (m c : Int32) : Prop := ¬ c < 48 ∧ ¬ 48 + m < c
abbrev ltr (c : Int32) : Prop := c = 97 ∨ c = 108 ∨ c = 114
abbrev okT (tx : Nat → Int32) (l p : Nat) : Prop := if byT tx l p = 119 then dg 5 (byT tx l (p + 1)) ∧ byT tx l (p + 2) = 59 else if byT tx l p = 101 then byT tx l (p + 1) = 59 else dg 9 (byT tx l p) ∧ ltr (byT tx l (p + 1)) ∧ byT tx l (p + 2) = 59
def nxT (tx : Nat → Int32) (l p : Nat) : Nat := if byT tx l p = 119 then (if dg 5 (byT tx l (p + 1)) then (if byT tx l (p + 2) = 59 then p + 3 else p + 2) else p + 1) else if byT tx l p = 101 then (if byT tx l (p + 1) = 59 then p + 2 else p + 1) else if dg 9 (byT tx l p) then (if ltr (byT tx l (p + 1)) then (if byT tx l (p + 2) = 59 then p + 3 else p + 2) else p + 1) else p
/-- where the model stands in the text -/
def Tp (β : Mem) (l : Nat) (tx : Nat → Int32) (p : Nat) : Prop := β 70 4 = J l ∧ l ≤ 150 ∧ (∀ i, i < l → β 73 i = tx i) ∧ β 70 7 = J p ∧ p ≤ 160
/-- only place, letter and digit may have changed -/
def Mt (β β' : Mem) : Prop := (∀ j, j ≠ 70 → β' j = β j) ∧ β' 70 4 = β 70 4 ∧ β' 70 2 = β 70 2
theorem Mt_r (β : Mem) : Mt β β := ⟨fun _ _ => rfl, rfl, rfl⟩
theorem Mt_t {a b c : Mem} (h : Mt a b) (h2 : Mt b c) : Mt a c := ⟨fun j q => (h2.1 j q).trans (h.1 j q), h2.2.1.trans h.2.1, h2.2.2.trans h.2.2⟩
theorem Mt_up {β β' : Mem} (h : Mt β β') {k : Nat} (hk : k ≠ 2 ∧ k ≠ 4) (v : Int32) : Mt β (up2 β' 70 k v) := ⟨fun j q => by rw [up2_ne _ q]; exact h.1 j q, by rw [up2_rd _ _ _ _ _ (by omega)]; exact h.2.1, by rw [up2_rd _ _ _ _ _ (by omega)]; exact h.2.2⟩
theorem Tp_up {β : Mem} {l : Nat} {tx : Nat → Int32} {p : Nat} (T : Tp β l tx p) {m : Nat} (hm : m = 8 ∨ m = 9) (v : Int32) {p' : Nat} (h : p' ≤ 160) : Tp (up2 (up2 β 70 m v) 70 7 (J p')) l tx p' := by
  refine ⟨?_, T.2.1, fun i hi => ?_, up2_rr .., h⟩
  · rw [up2_rd _ _ _ _ _ (by decide), up2_rd _ _ _ _ _ (by omega)]; exact T.1
  · rw [up2_ne _ (by decide), up2_ne _ (by decide)]; exact T.2.2.1 i hi
theorem Tp_7 {β : Mem} {l : Nat} {tx : Nat → Int32} {p : Nat} (T : Tp β l tx p) {p' : Nat} (h : p' ≤ 160) : Tp (up2 β 70 7 (J p')) l tx p' := by
  refine ⟨?_, T.2.1, fun i hi => ?_, up2_rr .., h⟩
  · rw [up2_rd _ _ _ _ _ (by decide)]; exact T.1
  · rw [up2_ne _ (by decide)]; exact T.2.2.1 i hi
theorem dg_m1 (m : Int32) : ¬ dg m (-1) := fun w => w.1 (by decide)
theorem ltr_m1 : ¬ ltr (-1) := by decide
theorem byT_59 {tx : Nat → Int32} {l i : Nat} {c : Int32} (hc : ¬ c = -1) (h : byT tx l i = c) : i < l := by
  unfold byT at h
  split at h
  · next w => exact w
  · exact absurd h.symm hc
theorem ok_nx {tx : Nat → Int32} {l p : Nat} (h : okT tx l p) : nxT tx l p ≤ l ∧ p < nxT tx l p ∧ p < l ∧ (byT tx l p = 119 → nxT tx l p = p + 3) ∧ (byT tx l p = 101 → nxT tx l p = p + 2) ∧ (¬ byT tx l p = 119 → ¬ byT tx l p = 101 → nxT tx l p = p + 3) := by
  have m59 : ¬ (59 : Int32) = -1 := by decide
  have m119 : ¬ (119 : Int32) = -1 := by decide
  have m101 : ¬ (101 : Int32) = -1 := by decide
  unfold okT at h
  unfold nxT
  by_cases q1 : byT tx l p = 119
  · rw [if_pos q1] at h
    have e := byT_59 m59 h.2
    rw [if_pos q1, if_pos h.1, if_pos h.2]
    refine ⟨by omega, by omega, by omega, fun _ => rfl, fun w => ?_, fun w => absurd q1 w⟩
    rw [q1] at w; exact absurd w (by decide)
  · rw [if_neg q1] at h
    rw [if_neg q1]
    by_cases q2 : byT tx l p = 101
    · rw [if_pos q2] at h
      have e := byT_59 m59 h
      rw [if_pos q2, if_pos h]
      exact ⟨by omega, by omega, by omega, fun w => absurd w q1, fun _ => rfl, fun _ w => absurd q2 w⟩
    · rw [if_neg q2] at h
      have e := byT_59 m59 h.2.2
      rw [if_neg q2, if_pos h.1, if_pos h.2.1, if_pos h.2.2]
      exact ⟨by omega, by omega, by omega, fun w => absurd w q1, fun w => absurd w q2, fun _ _ => rfl⟩
theorem err_st {α : Mem} {l i p : Nat} (h : i < l ∨ (i = l ∧ p ≠ 0)) : errF α l (l - i) i p = match pbN p (byT (α 69) l i) with | none => J i | some q => errF α l (l - (i + 1)) (i + 1) q := by
  by_cases w : i < l
  · have e : l - i = (l - (i + 1)) + 1 := by omega
    have eb : byT (α 69) l i = α 69 i := if_pos w
    rw [e, errF, eb]
    cases pbN p (α 69 i) <;> rfl
  · have hl : i = l := by omega
    have hp : p ≠ 0 := by omega
    subst hl
    have e : i - i = 0 := by omega
    have eb : byT (α 69) i i = -1 := if_neg w
    have hn : pbN p (-1) = none := by
      unfold pbN
      rw [if_neg hp]
      have : ¬ ((-1 : Int32) = 97 ∨ (-1 : Int32) = 108 ∨ (-1 : Int32) = 114) := by decide
      have h2 : ¬ ((48 : Int32) ≤ -1 ∧ (-1 : Int32) ≤ 53) := by decide
      have h3 : ¬ ((-1 : Int32) = 59) := by decide
      rw [if_neg this, if_neg h2, if_neg h3]
      split
      · rfl
      split <;> rfl
    rw [e, errF, eb, hn, if_neg hp]
theorem dg_5 (c : Int32) : dg 5 c = (48 ≤ c ∧ c ≤ 53) := by
  have e : (48 : Int32) + 5 = 53 := by decide
  unfold dg
  rw [e, nlt, nlt]
theorem dg_9 (c : Int32) : dg 9 c = (48 ≤ c ∧ c ≤ 57) := by
  have e : (48 : Int32) + 9 = 57 := by decide
  unfold dg
  rw [e, nlt, nlt]
theorem err_or {α : Mem} {l i : Nat} (h : i < l) : (okT (α 69) l i → errF α l (l - i) i 0 = errF α l (l - nxT (α 69) l i) (nxT (α 69) l i) 0) ∧ (¬ okT (α 69) l i → errF α l (l - i) i 0 = J (nxT (α 69) l i)) := by
  have p3 : ∀ j, j ≤ l → errF α l (l - j) j 3 = if byT (α 69) l j = 59 then errF α l (l - (j + 1)) (j + 1) 0 else J j := fun j hj => by
    rw [err_st (by omega)]
    have e : pbN 3 (byT (α 69) l j) = if byT (α 69) l j = 59 then some 0 else none := rfl
    rw [e]
    by_cases w : byT (α 69) l j = 59
    · rw [if_pos w, if_pos w]
    · rw [if_neg w, if_neg w]
  rw [err_st (Or.inl h)]
  unfold okT nxT
  by_cases q1 : byT (α 69) l i = 119
  · have e0 : pbN 0 (byT (α 69) l i) = some 2 := by rw [q1]; rfl
    rw [e0]
    simp only [if_pos q1]
    have e1 : errF α l (l - (i + 1)) (i + 1) 2 = if dg 5 (byT (α 69) l (i + 1)) then errF α l (l - (i + 1 + 1)) (i + 1 + 1) 3 else J (i + 1) := by
      rw [err_st (by omega)]
      have e : pbN 2 (byT (α 69) l (i + 1)) = if 48 ≤ byT (α 69) l (i + 1) ∧ byT (α 69) l (i + 1) ≤ 53 then some 3 else none := rfl
      rw [e]
      by_cases w : dg 5 (byT (α 69) l (i + 1))
      · rw [if_pos w, if_pos (by rw [← dg_5]; exact w)]
      · rw [if_neg w, if_neg (by rw [← dg_5]; exact w)]
    rw [e1]
    by_cases w : dg 5 (byT (α 69) l (i + 1))
    · have hl : i + 1 < l := by
        unfold byT at w
        split at w
        · next x => exact x
        · exact absurd w (dg_m1 5)
      rw [if_pos w, p3 _ (by omega), if_pos w]
      by_cases w2 : byT (α 69) l (i + 2) = 59
      · have w2' : byT (α 69) l (i + 1 + 1) = 59 := w2
        rw [if_pos w2', if_pos w2]
        exact ⟨fun _ => rfl, fun x => absurd ⟨w, w2⟩ x⟩
      · have w2' : ¬ byT (α 69) l (i + 1 + 1) = 59 := w2
        rw [if_neg w2', if_neg w2]
        exact ⟨fun x => absurd x.2 w2, fun _ => rfl⟩
    · rw [if_neg w, if_neg w]
      exact ⟨fun x => absurd x.1 w, fun _ => rfl⟩
  · simp only [if_neg q1]
    by_cases q2 : byT (α 69) l i = 101
    · have e0 : pbN 0 (byT (α 69) l i) = some 3 := by rw [q2]; rfl
      rw [e0]
      simp only [if_pos q2]
      rw [p3 _ (by omega)]
      by_cases w2 : byT (α 69) l (i + 1) = 59
      · rw [if_pos w2, if_pos w2]
        exact ⟨fun _ => rfl, fun x => absurd w2 x⟩
      · rw [if_neg w2, if_neg w2]
        exact ⟨fun x => absurd x w2, fun _ => rfl⟩
    · simp only [if_neg q2]
      have e0 : pbN 0 (byT (α 69) l i) = if dg 9 (byT (α 69) l i) then some 1 else none := by
        have e : pbN 0 (byT (α 69) l i) = if 48 ≤ byT (α 69) l i ∧ byT (α 69) l i ≤ 57 then some 1 else if byT (α 69) l i = 119 then some 2 else if byT (α 69) l i = 101 then some 3 else none := rfl
        rw [e, if_neg q1, if_neg q2]
        by_cases w : dg 9 (byT (α 69) l i)
        · rw [if_pos w, if_pos (by rw [← dg_9]; exact w)]
        · rw [if_neg w, if_neg (by rw [← dg_9]; exact w)]
      rw [e0]
      by_cases w0 : dg 9 (byT (α 69) l i)
      · simp only [if_pos w0]
        have e1 : errF α l (l - (i + 1)) (i + 1) 1 = if ltr (byT (α 69) l (i + 1)) then errF α l (l - (i + 1 + 1)) (i + 1 + 1) 3 else J (i + 1) := by
          rw [err_st (by omega)]
          have e : pbN 1 (byT (α 69) l (i + 1)) = if ltr (byT (α 69) l (i + 1)) then some 3 else none := rfl
          rw [e]
          by_cases w : ltr (byT (α 69) l (i + 1))
          · rw [if_pos w, if_pos w]
          · rw [if_neg w, if_neg w]
        rw [e1]
        by_cases w : ltr (byT (α 69) l (i + 1))
        · have hl : i + 1 < l := by
            unfold byT at w
            split at w
            · next x => exact x
            · exact absurd w ltr_m1
          rw [if_pos w, p3 _ (by omega), if_pos w]
          by_cases w2 : byT (α 69) l (i + 2) = 59
          · have w2' : byT (α 69) l (i + 1 + 1) = 59 := w2
            rw [if_pos w2', if_pos w2]
            exact ⟨fun _ => rfl, fun x => absurd ⟨w0, w, w2⟩ x⟩
          · have w2' : ¬ byT (α 69) l (i + 1 + 1) = 59 := w2
            rw [if_neg w2', if_neg w2]
            exact ⟨fun x => absurd x.2.2 w2, fun _ => rfl⟩
        · rw [if_neg w, if_neg w]
          exact ⟨fun x => absurd x.2.1 w, fun _ => rfl⟩
      · simp only [if_neg w0]
        exact ⟨fun x => absurd x.1 w0, fun _ => trivial⟩
section S62m
variable {z : Zr} {α β γ : Mem} {π : Nat → Nat} {η : Int64} {o : Nat → Int64} {od : Nat → UInt64} {n l k p : Nat} {tx : Nat → Int32}
theorem in73 {i : Nat} (h : i < 150) : inB (J i) (aln 73) = true := by rw [al73]; exact inB_J h (by omega)
theorem s197 (T : Tp β l tx p) : Run 197 0 [some (.ref (70))] [] (HC z γ π β η o od) = some (.inl (some (.int (byT tx l p))), (HC z γ π β η o od)) := by
  obtain ⟨t1, t2, t3, t4, t5⟩ := T
  unfold byT
  by_cases q : p < l
  · rw [if_pos q, ← t3 p q]
    simp only [↓reduceIte, e197_0, e197_1, e197_4, e197_5, e197_8, e197_11, e197_12, e197_15, e197_16, e197_19, e197_20, e197_23, e197_24, gf9_7 kd_70, gf9_4 kd_70, gf9_3 kd_70, t1, t4, J_le (show l < 2147483648 by omega) (show p < 2147483648 by omega), show ¬ l ≤ p by omega, gaI41 kd_73 (in73 (show p < 150 by omega)), J_tn (show p < 2147483648 by omega), aft_v, aft_n, Option.bind_some, rf_some, ck_i, ck_r, ck_n, nb0, nb1, nbi, Nat.reduceAdd, if_true, if_false, not_false_eq_true, not_true_eq_false]
  · rw [if_neg q]
    simp only [↓reduceIte, e197_0, e197_1, e197_4, e197_5, e197_8, e197_11, e197_12, e197_15, e197_16, e197_19, e197_20, e197_23, e197_24, gf9_7 kd_70, gf9_4 kd_70, t1, t4, J_le (show l < 2147483648 by omega) (show p < 2147483648 by omega), show l ≤ p by omega, aft_v, aft_n, Option.bind_some, rf_some, ck_i, ck_r, ck_n, nb0, nb1, nbi, Nat.reduceAdd, if_true, if_false, not_false_eq_true, not_true_eq_false]
theorem s198 (T : Tp β l tx p) (m : Int32) : Run 198 0 [some (.ref (70)), some (.int (m)), none] [] (HC z γ π β η o od) = some (.inl (some (.int (bi (dg m (byT tx l p))))), (HC z γ π (up2 (up2 β 70 9 (byT tx l p - 48)) 70 7 (J (if dg m (byT tx l p) then p + 1 else p))) η o od)) := by
  have h7 : up2 β 70 9 (byT tx l p - 48) 70 7 = J p := by rw [up2_rd _ _ _ _ _ (by decide)]; exact T.2.2.2.1
  by_cases q : dg m (byT tx l p)
  · rw [if_pos q, bi_t q]
    simp only [↓reduceIte, e198_0, e198_1, e198_4, e198_6, e198_8, e198_9, e198_10, e198_13, e198_14, e198_15, e198_16, e198_19, e198_21, e198_22, e198_25, e198_26, e198_27, e198_30, e198_31, e198_34, e198_35, e198_38, e198_39, e198_40, e198_43, e198_44, isO70, s197 T, s118, bi_t q, pf9_9 kd_70, gf9_7 kd_70, h7, pf9_7 kd_70, J_succ, i1_0, aft_v, aft_n, Option.bind_some, rf_some, ck_i, ck_r, ck_n, nb0, nb1, nbi, Nat.reduceAdd, if_true, if_false, not_false_eq_true, not_true_eq_false]
  · rw [if_neg q, bi_f q]
    simp only [↓reduceIte, e198_0, e198_1, e198_4, e198_6, e198_8, e198_9, e198_10, e198_13, e198_14, e198_15, e198_16, e198_19, e198_21, e198_22, e198_25, e198_26, e198_27, e198_30, e198_31, e198_34, e198_35, e198_38, e198_39, e198_40, e198_43, e198_44, isO70, s197 T, s118, bi_f q, pf9_9 kd_70, gf9_7 kd_70, h7, pf9_7 kd_70, Int32.add_zero, aft_v, aft_n, Option.bind_some, rf_some, ck_i, ck_r, ck_n, nb0, nb1, nbi, Nat.reduceAdd, if_true, if_false, not_false_eq_true, not_true_eq_false]
theorem s199_1 (T : Tp β l tx p) : Run 199 0 [some (.ref (70)), some (.int (1))] [] (HC z γ π β η o od) = some (.inl (some (.int (1))), (HC z γ π (up2 (up2 β 70 8 (byT tx l p)) 70 7 (J (p + 1))) η o od)) := by
  have h7 : up2 β 70 8 (byT tx l p) 70 7 = J p := by rw [up2_rd _ _ _ _ _ (by decide)]; exact T.2.2.2.1
  simp only [↓reduceIte, e199_0, e199_1, e199_2, e199_5, e199_8, e199_9, e199_10, e199_13, e199_14, e199_17, e199_18, e199_21, e199_22, e199_23, e199_26, e199_27, isO70, s197 T, pf9_8 kd_70, gf9_7 kd_70, h7, pf9_7 kd_70, J_succ, i1_0, aft_v, aft_n, Option.bind_some, rf_some, ck_i, ck_r, ck_n, nb0, nb1, nbi, Nat.reduceAdd, if_true, if_false, not_false_eq_true, not_true_eq_false]
theorem s199_0 (T : Tp β l tx p) : Run 199 0 [some (.ref (70)), some (.int (0))] [] (HC z γ π β η o od) = some (.inl (some (.int (0))), (HC z γ π (up2 (up2 β 70 8 (byT tx l p)) 70 7 (J p)) η o od)) := by
  have h7 : up2 β 70 8 (byT tx l p) 70 7 = J p := by rw [up2_rd _ _ _ _ _ (by decide)]; exact T.2.2.2.1
  simp only [↓reduceIte, e199_0, e199_1, e199_2, e199_5, e199_8, e199_9, e199_10, e199_13, e199_14, e199_17, e199_18, e199_21, e199_22, e199_23, e199_26, e199_27, isO70, s197 T, pf9_8 kd_70, gf9_7 kd_70, h7, pf9_7 kd_70, Int32.add_zero, aft_v, aft_n, Option.bind_some, rf_some, ck_i, ck_r, ck_n, nb0, nb1, nbi, Nat.reduceAdd, if_true, if_false, not_false_eq_true, not_true_eq_false]
/-- the end of an order: from pc 107 -/
theorem s200_e (T : Tp β l tx p) (i : Int32) (hi : i = 0 ∨ i = 1) (u : Option Value) (hp : p + 1 ≤ 160) : Run 200 107 [some (.ref (70)), some (.int (i)), u] [] (HC z γ π β η o od) = some (.inl (some (.int (bi (i = 1 ∧ byT tx l p = 59)))), (HC z γ π (up2 β 70 7 (J (if i = 1 ∧ byT tx l p = 59 then p + 1 else p))) η o od)) := by
  have h7 := T.2.2.2.1
  rcases hi with rfl | rfl
  · rw [if_neg (fun w => absurd w.1 (by decide)), bi_f (fun w => absurd w.1 (by decide))]
    simp only [↓reduceIte, e200_0, e200_1, e200_2, e200_3, e200_4, e200_7, e200_9, e200_12, e200_13, e200_16, e200_17, e200_20, e200_23, e200_24, e200_25, e200_28, e200_29, e200_32, e200_33, e200_34, e200_37, e200_39, e200_42, e200_43, e200_46, e200_47, e200_50, e200_53, e200_54, e200_56, e200_59, e200_62, e200_63, e200_64, e200_67, e200_69, e200_72, e200_73, e200_76, e200_78, e200_81, e200_82, e200_85, e200_87, e200_90, e200_91, e200_94, e200_95, e200_98, e200_101, e200_102, e200_105, e200_106, e200_107, e200_108, e200_111, e200_112, e200_115, e200_117, e200_120, e200_121, e200_124, e200_125, e200_126, e200_127, e200_128, e200_131, e200_132, e200_135, e200_136, e200_139, e200_140, e200_141, e200_144, e200_145, gf9_7 kd_70, h7, pf9_7 kd_70, Int32.add_zero, aft_v, aft_n, Option.bind_some, rf_some, ck_i, ck_r, ck_n, nb0, nb1, nbi, Nat.reduceAdd, if_true, if_false, not_false_eq_true, not_true_eq_false]
  · by_cases q : byT tx l p = 59
    · rw [if_pos ⟨rfl, q⟩, bi_t ⟨rfl, q⟩]
      simp only [↓reduceIte, e200_0, e200_1, e200_2, e200_3, e200_4, e200_7, e200_9, e200_12, e200_13, e200_16, e200_17, e200_20, e200_23, e200_24, e200_25, e200_28, e200_29, e200_32, e200_33, e200_34, e200_37, e200_39, e200_42, e200_43, e200_46, e200_47, e200_50, e200_53, e200_54, e200_56, e200_59, e200_62, e200_63, e200_64, e200_67, e200_69, e200_72, e200_73, e200_76, e200_78, e200_81, e200_82, e200_85, e200_87, e200_90, e200_91, e200_94, e200_95, e200_98, e200_101, e200_102, e200_105, e200_106, e200_107, e200_108, e200_111, e200_112, e200_115, e200_117, e200_120, e200_121, e200_124, e200_125, e200_126, e200_127, e200_128, e200_131, e200_132, e200_135, e200_136, e200_139, e200_140, e200_141, e200_144, e200_145, isO70, s197 T, q, gf9_7 kd_70, h7, pf9_7 kd_70, J_succ, i1_0, aft_v, aft_n, Option.bind_some, rf_some, ck_i, ck_r, ck_n, nb0, nb1, nbi, Nat.reduceAdd, if_true, if_false, not_false_eq_true, not_true_eq_false]
    · rw [if_neg (fun w => q w.2), bi_f (fun w => q w.2)]
      simp only [↓reduceIte, e200_0, e200_1, e200_2, e200_3, e200_4, e200_7, e200_9, e200_12, e200_13, e200_16, e200_17, e200_20, e200_23, e200_24, e200_25, e200_28, e200_29, e200_32, e200_33, e200_34, e200_37, e200_39, e200_42, e200_43, e200_46, e200_47, e200_50, e200_53, e200_54, e200_56, e200_59, e200_62, e200_63, e200_64, e200_67, e200_69, e200_72, e200_73, e200_76, e200_78, e200_81, e200_82, e200_85, e200_87, e200_90, e200_91, e200_94, e200_95, e200_98, e200_101, e200_102, e200_105, e200_106, e200_107, e200_108, e200_111, e200_112, e200_115, e200_117, e200_120, e200_121, e200_124, e200_125, e200_126, e200_127, e200_128, e200_131, e200_132, e200_135, e200_136, e200_139, e200_140, e200_141, e200_144, e200_145, isO70, s197 T, q, gf9_7 kd_70, h7, pf9_7 kd_70, Int32.add_zero, i1_0, aft_v, aft_n, Option.bind_some, rf_some, ck_i, ck_r, ck_n, nb0, nb1, nbi, Nat.reduceAdd, if_true, if_false, not_false_eq_true, not_true_eq_false]
theorem s200_w (T : Tp β l tx p) (hp : p + 3 ≤ 160) (h : byT tx l p = 119) : ∃ β', Run 200 0 [some (.ref (70)), none, none] [] (HC z γ π β η o od) = some (.inl (some (.int (bi (okT tx l p)))), (HC z γ π β' η o od)) ∧ Tp β' l tx (nxT tx l p) ∧ Mt β β' ∧ β' 70 8 = 119 ∧ β' 70 9 = byT tx l (p + 1) - 48 := by
  have T1 := Tp_up T (Or.inl rfl) (byT tx l p) (p' := p + 1) (by omega)
  have T2 := Tp_up T1 (Or.inr rfl) (byT tx l (p + 1) - 48) (p' := if dg 5 (byT tx l (p + 1)) then p + 1 + 1 else p + 1) (by split <;> omega)
  have e9 := s198 (z := z) (γ := γ) (π := π) (η := η) (o := o) (od := od) T1 5
  have e1 := s199_1 (z := z) (γ := γ) (π := π) (η := η) (o := o) (od := od) T
  have hh := s197 (z := z) (γ := γ) (π := π) (η := η) (o := o) (od := od) T
  have eo : okT tx l p = (dg 5 (byT tx l (p + 1)) ∧ byT tx l (p + 2) = 59) := by unfold okT; rw [if_pos h]
  have en : nxT tx l p = if dg 5 (byT tx l (p + 1)) then (if byT tx l (p + 2) = 59 then p + 3 else p + 2) else p + 1 := by unfold nxT; rw [if_pos h]
  rw [en]
  by_cases q : dg 5 (byT tx l (p + 1))
  · rw [if_pos q] at T2 e9 ⊢
    rw [bi_t q] at e9
    have ee := s200_e (z := z) (γ := γ) (π := π) (η := η) (o := o) (od := od) T2 1 (Or.inr rfl) none (by omega)
    refine ⟨_, ?_, Tp_7 T2 (p' := if byT tx l (p + 2) = 59 then p + 3 else p + 2) (by split <;> omega), Mt_up (Mt_up (Mt_up (Mt_up (Mt_up (Mt_r β) (by decide) _) (by decide) _) (by decide) _) (by decide) _) (by decide) _, ?_, ?_⟩
    · have eb : bi (okT tx l p) = bi ((1 : Int32) = 1 ∧ byT tx l (p + 1 + 1) = 59) := bi_c (by rw [eo]; exact ⟨fun w => ⟨rfl, w.2⟩, fun w => ⟨q, w.2⟩⟩)
      have ec : (if byT tx l (p + 2) = 59 then p + 3 else p + 2) = if (1 : Int32) = 1 ∧ byT tx l (p + 1 + 1) = 59 then p + 1 + 1 + 1 else p + 1 + 1 := by
        by_cases w : byT tx l (p + 2) = 59
        · have w' : byT tx l (p + 1 + 1) = 59 := w
          rw [if_pos w, if_pos ⟨rfl, w'⟩]
        · have w' : ¬ byT tx l (p + 1 + 1) = 59 := w
          rw [if_neg w, if_neg (fun x => w' x.2)]
      rw [eb, ec, ← ee]
      simp only [↓reduceIte, e200_0, e200_1, e200_2, e200_3, e200_4, e200_7, e200_9, e200_12, e200_13, e200_16, e200_17, e200_20, e200_23, e200_24, e200_25, e200_28, e200_29, e200_32, e200_33, e200_34, e200_37, e200_39, e200_42, e200_43, e200_46, e200_47, e200_50, e200_53, e200_54, e200_56, e200_59, e200_62, e200_63, e200_64, e200_67, e200_69, e200_72, e200_73, e200_76, e200_78, e200_81, e200_82, e200_85, e200_87, e200_90, e200_91, e200_94, e200_95, e200_98, e200_101, e200_102, e200_105, e200_106, e200_108, e200_111, e200_112, e200_115, e200_117, e200_120, e200_121, e200_124, e200_125, e200_126, e200_127, e200_128, e200_131, e200_132, e200_135, e200_136, e200_139, e200_140, e200_141, e200_144, e200_145, isO70, hh, h, e1, e9, i1_0, aft_v, aft_n, Option.bind_some, rf_some, ck_i, ck_r, ck_n, nb0, nb1, nbi, Nat.reduceAdd, if_true, if_false, not_false_eq_true, not_true_eq_false]
      rw [h] at e1 e9
      simp only [↓reduceIte, e200_0, e200_1, e200_2, e200_3, e200_4, e200_7, e200_9, e200_12, e200_13, e200_16, e200_17, e200_20, e200_23, e200_24, e200_25, e200_28, e200_29, e200_32, e200_33, e200_34, e200_37, e200_39, e200_42, e200_43, e200_46, e200_47, e200_50, e200_53, e200_54, e200_56, e200_59, e200_62, e200_63, e200_64, e200_67, e200_69, e200_72, e200_73, e200_76, e200_78, e200_81, e200_82, e200_85, e200_87, e200_90, e200_91, e200_94, e200_95, e200_98, e200_101, e200_102, e200_105, e200_106, e200_108, e200_111, e200_112, e200_115, e200_117, e200_120, e200_121, e200_124, e200_125, e200_126, e200_127, e200_128, e200_131, e200_132, e200_135, e200_136, e200_139, e200_140, e200_141, e200_144, e200_145, isO70, hh, h, e1, e9, i1_0, aft_v, aft_n, Option.bind_some, rf_some, ck_i, ck_r, ck_n, nb0, nb1, nbi, Nat.reduceAdd, if_true, if_false, not_false_eq_true, not_true_eq_false]
    · rw [up2_rd _ _ _ _ _ (by decide), up2_rd _ _ _ _ _ (by decide), up2_rd _ _ _ _ _ (by decide), up2_rd _ _ _ _ _ (by decide), up2_rr, h]
    · rw [up2_rd _ _ _ _ _ (by decide), up2_rd _ _ _ _ _ (by decide), up2_rr]
  · rw [if_neg q] at T2 e9 ⊢
    rw [bi_f q] at e9
    have ee := s200_e (z := z) (γ := γ) (π := π) (η := η) (o := o) (od := od) T2 0 (Or.inl rfl) none (by omega)
    have z1 : ¬ ((0 : Int32) = 1 ∧ byT tx l (p + 1) = 59) := fun w => absurd w.1 (by decide)
    rw [if_neg z1, bi_f z1] at ee
    refine ⟨_, ?_, Tp_7 T2 (p' := p + 1) (by omega), Mt_up (Mt_up (Mt_up (Mt_up (Mt_up (Mt_r β) (by decide) _) (by decide) _) (by decide) _) (by decide) _) (by decide) _, ?_, ?_⟩
    · rw [bi_f (show ¬ okT tx l p from fun w => by rw [eo] at w; exact q w.1), ← ee]
      rw [h] at e1 e9
      simp only [↓reduceIte, e200_0, e200_1, e200_2, e200_3, e200_4, e200_7, e200_9, e200_12, e200_13, e200_16, e200_17, e200_20, e200_23, e200_24, e200_25, e200_28, e200_29, e200_32, e200_33, e200_34, e200_37, e200_39, e200_42, e200_43, e200_46, e200_47, e200_50, e200_53, e200_54, e200_56, e200_59, e200_62, e200_63, e200_64, e200_67, e200_69, e200_72, e200_73, e200_76, e200_78, e200_81, e200_82, e200_85, e200_87, e200_90, e200_91, e200_94, e200_95, e200_98, e200_101, e200_102, e200_105, e200_106, e200_108, e200_111, e200_112, e200_115, e200_117, e200_120, e200_121, e200_124, e200_125, e200_126, e200_127, e200_128, e200_131, e200_132, e200_135, e200_136, e200_139, e200_140, e200_141, e200_144, e200_145, isO70, hh, h, e1, e9, i1_0, aft_v, aft_n, Option.bind_some, rf_some, ck_i, ck_r, ck_n, nb0, nb1, nbi, Nat.reduceAdd, if_true, if_false, not_false_eq_true, not_true_eq_false]
    · rw [up2_rd _ _ _ _ _ (by decide), up2_rd _ _ _ _ _ (by decide), up2_rd _ _ _ _ _ (by decide), up2_rd _ _ _ _ _ (by decide), up2_rr, h]
    · rw [up2_rd _ _ _ _ _ (by decide), up2_rd _ _ _ _ _ (by decide), up2_rr]
end S62m
