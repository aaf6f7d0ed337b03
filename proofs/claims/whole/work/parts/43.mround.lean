/-! the model: the end of a round -/
theorem Md_tr {a b c : Mem} (h1 : Md a b) (h2 : Md b c) : Md a c := fun j hj => (h2 j hj).trans (h1 j hj)
theorem Rm_4 {q : Nat → Int32} {α : Mem} {n : Nat} (R : Rm q α n) {k : Nat} (hk : k < 5) (v : Int32) : Rm (upd q k v) (up2 α 4 k v) n := by
  refine ⟨fun m hm => ?_, fun c hc => ?_, fun j hj m hm => ?_⟩
  · rw [up2_44]
    by_cases h : m = k
    · rw [h, upd_at, if_pos rfl]
    · rw [upd_ne _ h, if_neg h]; exact R.1 m hm
  · rw [upd_ne _ (by omega), up2_45]; exact R.2.1 c hc
  · rw [upd_ne _ (by omega), up2_4s]; exact R.2.2 j hj m hm
section S43
variable {z : Zr} {α β γ : Mem} {π : Nat → Nat} {η : Int64} {o : Nat → Int64} {od : Nat → UInt64} {n k : Nat}
theorem s166_a : ∀ k i (α : Mem) v (β : Mem) (u : Option Value), i + k = n → Ok α n → Rm (β 71) α n → ∃ β' u', Run 166 4 [some (.ref (70)), some (.int (v)), some (.int (J i)), u] [] (HC z γ π β η o od) = Run 166 115 [some (.ref (70)), some (.int ((dr1 n k i α v).2)), some (.int (J n)), u'] [] (HC z γ π β' η o od) ∧ Rm (β' 71) (dr1 n k i α v).1 n ∧ Md β β' := by
  intro k
  induction k with
  | zero =>
    intro i α v β u hi H R
    have h8 := H.n8
    have : i = n := by omega
    subst this
    refine ⟨β, u, ?_, R, Md_r β⟩
    simp only [↓reduceIte, e166_0, e166_1, e166_2, e166_3, e166_4, e166_5, e166_6, e166_9, e166_10, e166_11, e166_14, e166_15, e166_16, e166_19, e166_22, e166_23, e166_24, e166_25, e166_28, e166_31, e166_32, e166_33, e166_35, e166_38, e166_39, e166_42, e166_43, e166_46, e166_47, e166_48, e166_51, e166_52, e166_55, e166_56, e166_57, e166_58, e166_61, e166_62, e166_63, e166_64, e166_65, e166_66, e166_69, e166_70, e166_73, e166_74, e166_75, e166_78, e166_81, e166_84, e166_85, e166_86, e166_87, e166_88, e166_89, e166_90, e166_91, e166_94, e166_95, e166_98, e166_99, e166_100, e166_103, e166_106, e166_109, e166_112, e166_116, e166_119, e166_120, e166_121, e166_122, e166_123, e166_124, e166_125, e166_126, e166_127, e166_128, e166_129, e166_132, e166_133, e166_134, e166_137, e166_138, e166_139, e166_140, e166_141, e166_144, e166_145, e166_146, e166_148, e166_149, e166_150, e166_151, e166_152, e166_154, e166_155, e166_156, e166_159, e166_162, e166_163, e166_164, e166_166, e166_167, e166_168, e166_171, e166_172, e166_173, e166_176, e166_177, e166_180, e166_183, e166_186, e166_187, e166_188, e166_191, e166_194, e166_197, e166_198, gf9_0 kd_70, m71_5 R, H.hn, J_le (show i < 2147483648 by omega) (show i < 2147483648 by omega), Nat.le_refl, dr1, aft_v, aft_n, Option.bind_some, rf_some, ck_i, ck_r, ck_n, nb0, nb1, nbi, Nat.reduceAdd, if_true, if_false, not_false_eq_true, not_true_eq_false]
  | succ k ih =>
    intro i α v β u hi H R
    have h8 := H.n8
    have hin : i < n := by omega
    have hw := H.wdJ
    have hs := H.sails i hin
    have hsl : (α (7 + i) 4 = 0) = ¬ 0 < α (7 + i) 4 := by
      apply propext; rw [i32_eq, i32_lt, ti0]; omega
    have e2 : Run 130 0 [some (.ref (70)), some (.int (α (7 + i) 1)), some (.int (α 4 2)), none, none] [] (HC z γ π β η o od) = some (.inl (some (.int (nbC α (α (7 + i) 1) (wdN α)))), (HC z γ π β η o od)) := by rw [hw.2]; exact s130 H R hw.1
    have e3 : Run 133 0 [some (.ref (70)), some (.int (nbC α (α (7 + i) 1) (wdN α)))] [] (HC z γ π β η o od) = _ := s133 H R (nb_cell H _ _)
    rw [e166_4]
    by_cases hd : driftsC α n i
    · have R1 := Rm_up R (show i < 8 by omega) (k := 1) (by decide) (nbC α (α (7 + i) 1) (wdN α))
      obtain ⟨β', u', h1, h2, h3⟩ := ih (i + 1) (driftC α i) (v + 1) (up2 β 71 (6 + 15 * i + 1) (nbC α (α (7 + i) 1) (wdN α))) (some (.int 1)) (by omega) (Ok_drift H hd) R1
      refine ⟨β', u', ?_, ?_, Md_tr (Md_up (Md_r β) _ _) h3⟩
      · rw [bi_t hd.2.2.2.2] at e3
        have ed : dr1 n (k + 1) i α v = dr1 n k (i + 1) (driftC α i) (v + 1) := by rw [dr1, if_pos hd]
        rw [ed, ← h1]
        simp only [↓reduceIte, e166_0, e166_1, e166_2, e166_3, e166_5, e166_6, e166_9, e166_10, e166_11, e166_14, e166_15, e166_16, e166_19, e166_22, e166_23, e166_24, e166_25, e166_28, e166_31, e166_32, e166_33, e166_35, e166_38, e166_39, e166_42, e166_43, e166_46, e166_47, e166_48, e166_51, e166_52, e166_55, e166_56, e166_57, e166_58, e166_61, e166_62, e166_63, e166_64, e166_65, e166_66, e166_69, e166_70, e166_73, e166_74, e166_75, e166_78, e166_81, e166_84, e166_85, e166_86, e166_87, e166_88, e166_89, e166_90, e166_91, e166_94, e166_95, e166_98, e166_99, e166_100, e166_103, e166_106, e166_109, e166_112, e166_116, e166_119, e166_120, e166_121, e166_122, e166_123, e166_124, e166_125, e166_126, e166_127, e166_128, e166_129, e166_132, e166_133, e166_134, e166_137, e166_138, e166_139, e166_140, e166_141, e166_144, e166_145, e166_146, e166_148, e166_149, e166_150, e166_151, e166_152, e166_154, e166_155, e166_156, e166_159, e166_162, e166_163, e166_164, e166_166, e166_167, e166_168, e166_171, e166_172, e166_173, e166_176, e166_177, e166_180, e166_183, e166_186, e166_187, e166_188, e166_191, e166_194, e166_197, e166_198, gf9_0 kd_70, isO70, m71_5 R, m71_3 R, m71_2 R, H.hn, J_lt (show i < 2147483648 by omega) (show n < 2147483648 by omega), hin, s127 R h8 hin, s125_4 R h8 hin, s125_11 R h8 hin, s125_1 R h8 hin, hsl, le_not, hd.1, hd.2.1, hd.2.2.1, hd.2.2.2.1, bi0, e2, e3, s126_1 (show i < 8 by omega), J_succ, i1_0, aft_v, aft_n, Option.bind_some, rf_some, ck_i, ck_r, ck_n, nb0, nb1, nbi, Nat.reduceAdd, if_true, if_false, not_false_eq_true, not_true_eq_false]
      · rw [dr1, if_pos hd]; exact h2
    · have ed : dr1 n (k + 1) i α v = dr1 n k (i + 1) α v := by rw [dr1, if_neg hd]
      have hx : ∃ u2, Run 166 4 [some (.ref (70)), some (.int (v)), some (.int (J i)), u] [] (HC z γ π β η o od) = Run 166 4 [some (.ref (70)), some (.int (v)), some (.int (J (i + 1))), u2] [] (HC z γ π β η o od) := by
        by_cases q5 : freeC α n (nbC α (α (7 + i) 1) (wdN α))
        · refine ⟨some (.int 0), ?_⟩
          rw [bi_t q5] at e3
          rw [e166_4]
          by_cases q1 : 0 < α (7 + i) 3 <;> by_cases q2 : 0 < α (7 + i) 4 <;> by_cases q3 : α (7 + i) 12 = -1 <;> by_cases q4 : 0 < α 4 3 <;> first | exact absurd (show driftsC α n i from ⟨q1, q2, q3, q4, q5⟩) hd | simp only [↓reduceIte, e166_0, e166_1, e166_2, e166_3, e166_5, e166_6, e166_9, e166_10, e166_11, e166_14, e166_15, e166_16, e166_19, e166_22, e166_23, e166_24, e166_25, e166_28, e166_31, e166_32, e166_33, e166_35, e166_38, e166_39, e166_42, e166_43, e166_46, e166_47, e166_48, e166_51, e166_52, e166_55, e166_56, e166_57, e166_58, e166_61, e166_62, e166_63, e166_64, e166_65, e166_66, e166_69, e166_70, e166_73, e166_74, e166_75, e166_78, e166_81, e166_84, e166_85, e166_86, e166_87, e166_88, e166_89, e166_90, e166_91, e166_94, e166_95, e166_98, e166_99, e166_100, e166_103, e166_106, e166_109, e166_112, e166_116, e166_119, e166_120, e166_121, e166_122, e166_123, e166_124, e166_125, e166_126, e166_127, e166_128, e166_129, e166_132, e166_133, e166_134, e166_137, e166_138, e166_139, e166_140, e166_141, e166_144, e166_145, e166_146, e166_148, e166_149, e166_150, e166_151, e166_152, e166_154, e166_155, e166_156, e166_159, e166_162, e166_163, e166_164, e166_166, e166_167, e166_168, e166_171, e166_172, e166_173, e166_176, e166_177, e166_180, e166_183, e166_186, e166_187, e166_188, e166_191, e166_194, e166_197, e166_198, gf9_0 kd_70, isO70, m71_5 R, m71_3 R, m71_2 R, H.hn, J_lt (show i < 2147483648 by omega) (show n < 2147483648 by omega), hin, s127 R h8 hin, s125_4 R h8 hin, s125_11 R h8 hin, s125_1 R h8 hin, hsl, le_not, q1, q2, q3, q4, bi0, e2, e3, J_succ, i1_0, aft_v, aft_n, Option.bind_some, rf_some, ck_i, ck_r, ck_n, nb0, nb1, nbi, Nat.reduceAdd, if_true, if_false, not_false_eq_true, not_true_eq_false]
        · rw [bi_f q5] at e3
          rw [e166_4]
          refine ⟨some (.int (bi (0 < α (7 + i) 3 ∧ ¬ 0 < α (7 + i) 4 ∧ α (7 + i) 12 = -1 ∧ 0 < α 4 3))), ?_⟩
          unfold bi
          by_cases q1 : 0 < α (7 + i) 3 <;> by_cases q2 : 0 < α (7 + i) 4 <;> by_cases q3 : α (7 + i) 12 = -1 <;> by_cases q4 : 0 < α 4 3 <;> simp only [↓reduceIte, e166_0, e166_1, e166_2, e166_3, e166_5, e166_6, e166_9, e166_10, e166_11, e166_14, e166_15, e166_16, e166_19, e166_22, e166_23, e166_24, e166_25, e166_28, e166_31, e166_32, e166_33, e166_35, e166_38, e166_39, e166_42, e166_43, e166_46, e166_47, e166_48, e166_51, e166_52, e166_55, e166_56, e166_57, e166_58, e166_61, e166_62, e166_63, e166_64, e166_65, e166_66, e166_69, e166_70, e166_73, e166_74, e166_75, e166_78, e166_81, e166_84, e166_85, e166_86, e166_87, e166_88, e166_89, e166_90, e166_91, e166_94, e166_95, e166_98, e166_99, e166_100, e166_103, e166_106, e166_109, e166_112, e166_116, e166_119, e166_120, e166_121, e166_122, e166_123, e166_124, e166_125, e166_126, e166_127, e166_128, e166_129, e166_132, e166_133, e166_134, e166_137, e166_138, e166_139, e166_140, e166_141, e166_144, e166_145, e166_146, e166_148, e166_149, e166_150, e166_151, e166_152, e166_154, e166_155, e166_156, e166_159, e166_162, e166_163, e166_164, e166_166, e166_167, e166_168, e166_171, e166_172, e166_173, e166_176, e166_177, e166_180, e166_183, e166_186, e166_187, e166_188, e166_191, e166_194, e166_197, e166_198, gf9_0 kd_70, isO70, m71_5 R, m71_3 R, m71_2 R, H.hn, J_lt (show i < 2147483648 by omega) (show n < 2147483648 by omega), hin, s127 R h8 hin, s125_4 R h8 hin, s125_11 R h8 hin, s125_1 R h8 hin, hsl, le_not, q1, q2, q3, q4, bi0, e2, e3, J_succ, i1_0, and_true, and_false, true_and, false_and, aft_v, aft_n, Option.bind_some, rf_some, ck_i, ck_r, ck_n, nb0, nb1, nbi, Nat.reduceAdd, if_true, if_false, not_false_eq_true, not_true_eq_false]
      obtain ⟨u2, hx⟩ := hx
      obtain ⟨β', u', h1, h2, h3⟩ := ih (i + 1) α v β u2 (by omega) H R
      refine ⟨β', u', ?_, by rw [ed]; exact h2, h3⟩
      rw [← e166_4, hx, h1, ed]
end S43
