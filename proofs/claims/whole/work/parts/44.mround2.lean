/-! the model: the end of a round, its second half -/
theorem i90 : (9 : Int32) + 0 = 9 := by decide
theorem i91 : (9 : Int32) + 1 = 10 := by decide
theorem l21 : ((2 : Int32) ≤ 1) = False := eq_false (by decide)
theorem l20 : ((2 : Int32) ≤ 0) = False := eq_false (by decide)
theorem l22 : ((2 : Int32) ≤ 2) = True := eq_true (by decide)
theorem l02 : ((0 : Int32) < 2) = True := eq_true (by decide)
theorem l22' : ((2 : Int32) < 2) = False := eq_false (by decide)
theorem wt_v {w : Int32} (h : 0 ≤ w.toInt ∧ w.toInt ≤ 2) : mxC 0 (w - 1) = if 0 < w then w - 1 else 0 := by
  have e := sub_ti (x := w) (y := 1) (by rw [ti1]; omega) (by rw [ti1]; omega)
  rw [ti1] at e
  rw [i32_eq, mx_ti, ti0, e]
  simp only [i32_lt, ti0]
  (repeat' split) <;> (try rw [e]) <;> (try rw [ti0]) <;> omega
section S44
variable {z : Zr} {α β γ : Mem} {π : Nat → Nat} {η : Int64} {o : Nat → Int64} {od : Nat → UInt64} {n k : Nat}
theorem s166_b : ∀ k i (α : Mem) v (β : Mem) (u : Option Value), i + k = n → Ok α n → Rm (β 71) α n → ∃ β', Run 166 127 [some (.ref (70)), some (.int (v)), some (.int (J i)), u] [] (HC z γ π β η o od) = some (.inl (some (.int (v))), (HC z γ π β' η o od)) ∧ Rm (β' 71) (dr2 k i α) n ∧ Md β β' := by
  intro k
  induction k with
  | zero =>
    intro i α v β u hi H R
    have h8 := H.n8
    have : i = n := by omega
    subst this
    refine ⟨β, ?_, R, Md_r β⟩
    simp only [↓reduceIte, e166_0, e166_1, e166_2, e166_3, e166_4, e166_5, e166_6, e166_9, e166_10, e166_11, e166_14, e166_15, e166_16, e166_19, e166_22, e166_23, e166_24, e166_25, e166_28, e166_31, e166_32, e166_33, e166_35, e166_38, e166_39, e166_42, e166_43, e166_46, e166_47, e166_48, e166_51, e166_52, e166_55, e166_56, e166_57, e166_58, e166_61, e166_62, e166_63, e166_64, e166_65, e166_66, e166_69, e166_70, e166_73, e166_74, e166_75, e166_78, e166_81, e166_84, e166_85, e166_86, e166_87, e166_88, e166_89, e166_90, e166_91, e166_94, e166_95, e166_98, e166_99, e166_100, e166_103, e166_106, e166_109, e166_112, e166_115, e166_116, e166_119, e166_120, e166_121, e166_122, e166_123, e166_124, e166_125, e166_126, e166_127, e166_128, e166_129, e166_132, e166_133, e166_134, e166_137, e166_138, e166_139, e166_140, e166_141, e166_144, e166_145, e166_146, e166_148, e166_149, e166_150, e166_151, e166_152, e166_154, e166_155, e166_156, e166_159, e166_162, e166_163, e166_164, e166_166, e166_167, e166_168, e166_171, e166_172, e166_173, e166_176, e166_177, e166_180, e166_183, e166_186, e166_187, e166_188, e166_191, e166_194, e166_197, e166_198, gf9_0 kd_70, m71_5 R, H.hn, Int32.le_refl, aft_v, aft_n, Option.bind_some, rf_some, ck_i, ck_r, ck_n, nb0, nb1, nbi, Nat.reduceAdd, if_true, if_false, not_false_eq_true, not_true_eq_false]
  | succ k ih =>
    intro i α v β u hi H R
    have h8 := H.n8
    have hin : i < n := by omega
    have hi8 : i < 8 := by omega
    have H2 := Ok_short H hin
    have R1 := Rm_up R hi8 (k := 9) (by decide) (mxC 0 (α (7 + i) 10 - 1))
    have g1 : up2 α (7 + i) (slM 9) (mxC 0 (α (7 + i) 10 - 1)) (7 + i) 11 = α (7 + i) 11 := u10_11 ..
    have R2 : Rm (up2 (up2 β 71 (6 + 15 * i + 9) (mxC 0 (α (7 + i) 10 - 1))) 71 (6 + 15 * i + 10) (mxC 0 (α (7 + i) 11 - 1)) 71) (shortC α (7 + i)) n := Rm_up R1 hi8 (k := 10) (by decide) _
    obtain ⟨β1, b1, b2, b3⟩ := s146 (z := z) (γ := γ) (π := π) (η := η) (o := o) (od := od) H2 R2 hin
    obtain ⟨β', h1, h2, h3⟩ := ih (i + 1) (readyC (shortC α (7 + i)) (7 + i)) v β1 (some (.int 2)) (by omega) (Ok_ready H2 hin) b2
    refine ⟨β', ?_, h2, Md_tr (Md_tr (Md_up (Md_up (Md_r β) _ _) _ _) b3) h3⟩
    rw [← h1, e166_127]
    have w1 := wt_v (H.wl i hin)
    have w2 := wt_v (H.wr i hin)
    by_cases q1 : 0 < α (7 + i) 10 <;> by_cases q2 : 0 < α (7 + i) 11
    all_goals simp only [q1, q2, if_true, if_false] at w1 w2
    all_goals rw [w1, w2] at b1
    all_goals rw [w1] at R1 g1
    all_goals simp only [↓reduceIte, e166_0, e166_1, e166_2, e166_3, e166_5, e166_6, e166_9, e166_10, e166_11, e166_14, e166_15, e166_16, e166_19, e166_22, e166_23, e166_24, e166_25, e166_28, e166_31, e166_32, e166_33, e166_35, e166_38, e166_39, e166_42, e166_43, e166_46, e166_47, e166_48, e166_51, e166_52, e166_55, e166_56, e166_57, e166_58, e166_61, e166_62, e166_63, e166_64, e166_65, e166_66, e166_69, e166_70, e166_73, e166_74, e166_75, e166_78, e166_81, e166_84, e166_85, e166_86, e166_87, e166_88, e166_89, e166_90, e166_91, e166_94, e166_95, e166_98, e166_99, e166_100, e166_103, e166_106, e166_109, e166_112, e166_115, e166_116, e166_119, e166_120, e166_121, e166_122, e166_123, e166_124, e166_125, e166_126, e166_128, e166_129, e166_132, e166_133, e166_134, e166_137, e166_138, e166_139, e166_140, e166_141, e166_144, e166_145, e166_146, e166_148, e166_149, e166_150, e166_151, e166_152, e166_154, e166_155, e166_156, e166_159, e166_162, e166_163, e166_164, e166_166, e166_167, e166_168, e166_171, e166_172, e166_173, e166_176, e166_177, e166_180, e166_183, e166_186, e166_187, e166_188, e166_191, e166_194, e166_197, e166_198, gf9_0 kd_70, isO70, m71_5 R, H.hn, J_lt (show i < 2147483648 by omega) (show n < 2147483648 by omega), hin, s125_9 R h8 hin, s125_10 R1 h8 hin, g1, i90, i91, i01, i11, l02, l12, l22', q1, q2, s126_9 hi8, s126_10 hi8, b1, le_not, J_succ, ln0_1, ln0_2, ln0_3, ln0_4, ln0_5, ln1_0, ln1_2, ln1_3, ln1_4, ln1_5, ln2_0, ln2_1, ln2_3, ln2_4, ln2_5, ln3_0, ln3_1, ln3_2, ln3_4, ln3_5, ln4_0, ln4_1, ln4_2, ln4_3, ln4_5, ln5_0, ln5_1, ln5_2, ln5_3, ln5_4, aft_v, aft_n, Option.bind_some, rf_some, ck_i, ck_r, ck_n, nb0, nb1, nbi, Nat.reduceAdd, if_true, if_false, not_false_eq_true, not_true_eq_false]
theorem s166 (H : Ok α n) (R : Rm (β 71) α n) : ∃ β', Run 166 0 [some (.ref (70)), none, none, none] [] (HC z γ π β η o od) = some (.inl (some (.int ((dr1 n n 0 α 0).2))), (HC z γ π β' η o od)) ∧ Rm (β' 71) (finC α n) n ∧ Md β β' := by
  have H1 := Ok_dr1 n n 0 α 0 (by omega) H
  obtain ⟨β1, u1, a1, a2, a3⟩ := s166_a (z := z) (γ := γ) (π := π) (η := η) (o := o) (od := od) n 0 α 0 β none (by omega) H R
  have R2 : Rm (up2 β1 71 4 ((dr1 n n 0 α 0).1 4 4 + 1) 71) (up2 (dr1 n n 0 α 0).1 4 4 ((dr1 n n 0 α 0).1 4 4 + 1)) n := by
    rw [up2_at]; exact Rm_4 a2 (by omega) _
  obtain ⟨β', b1, b2, b3⟩ := s166_b (z := z) (γ := γ) (π := π) (η := η) (o := o) (od := od) n 0 _ (dr1 n n 0 α 0).2 _ u1 (by omega) (Ok_round H1 ((dr1 n n 0 α 0).1 4 4 + 1)) R2
  refine ⟨β', ?_, b2, Md_tr (Md_tr a3 (Md_up (Md_r β1) _ _)) b3⟩
  have p4 : paI (HC z γ π β1 η o od) 71 4 ((dr1 n n 0 α 0).1 4 4 + 1) = some (HC z γ π (up2 β1 71 4 ((dr1 n n 0 α 0).1 4 4 + 1)) η o od) := paI41 kd_71 (in71h (k := 4) (by decide))
  rw [show J 0 = (0 : Int32) from rfl] at a1 b1
  rw [← b1]
  simp only [e166_0, e166_1, e166_2, e166_3, aft_v, aft_n, Option.bind_some, rf_some, ck_i, ck_r, ck_n, nb0, nb1, nbi, Nat.reduceAdd, if_true, if_false, not_false_eq_true, not_true_eq_false]
  rw [a1]
  simp only [↓reduceIte, e166_0, e166_1, e166_2, e166_3, e166_5, e166_6, e166_9, e166_10, e166_11, e166_14, e166_15, e166_16, e166_19, e166_22, e166_23, e166_24, e166_25, e166_28, e166_31, e166_32, e166_33, e166_35, e166_38, e166_39, e166_42, e166_43, e166_46, e166_47, e166_48, e166_51, e166_52, e166_55, e166_56, e166_57, e166_58, e166_61, e166_62, e166_63, e166_64, e166_65, e166_66, e166_69, e166_70, e166_73, e166_74, e166_75, e166_78, e166_81, e166_84, e166_85, e166_86, e166_87, e166_88, e166_89, e166_90, e166_91, e166_94, e166_95, e166_98, e166_99, e166_100, e166_103, e166_106, e166_109, e166_112, e166_115, e166_116, e166_119, e166_120, e166_121, e166_122, e166_123, e166_124, e166_125, e166_126, e166_128, e166_129, e166_132, e166_133, e166_134, e166_137, e166_138, e166_139, e166_140, e166_141, e166_144, e166_145, e166_146, e166_148, e166_149, e166_150, e166_151, e166_152, e166_154, e166_155, e166_156, e166_159, e166_162, e166_163, e166_164, e166_166, e166_167, e166_168, e166_171, e166_172, e166_173, e166_176, e166_177, e166_180, e166_183, e166_186, e166_187, e166_188, e166_191, e166_194, e166_197, e166_198, gf9_0 kd_70, m71_4 a2, p4, aft_v, aft_n, Option.bind_some, rf_some, ck_i, ck_r, ck_n, nb0, nb1, nbi, Nat.reduceAdd, if_true, if_false, not_false_eq_true, not_true_eq_false]
end S44
