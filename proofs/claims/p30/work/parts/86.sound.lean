/-! the law's check 'sound' -/
section S86
variable {z : Zr} {α β γ : Mem} {π : Nat → Nat} {η : Int64} {o : Nat → Int64} {od : Nat → UInt64} {n k : Nat}
theorem t144_1 (S : Sg α n) : ∀ k c (a b : Int32) (u : Option Value), c + k = szN α → ∃ u', Run 144 29 [some (.ref (3)), some (.int (J (szN α))), some (.int (J n)), some (.int (a)), some (.int (b)), some (.int (0)), some (.int (J c)), u, none, none, none, none, none] [] (HC z α π β η o od) = Run 144 111 [some (.ref (3)), some (.int (J (szN α))), some (.int (J n)), some (.int (cntF (fun c => ¬ shipOnF α (J c) n 0 = -1) k c a)), some (.int (cntF (fun c => rockC α (J c)) k c b)), some (.int (0)), some (.int (J (szN α))), u', none, none, none, none, none] [] (HC z α π β η o od) := by
  have H := S.1
  have h8 := H.n8
  have hs := H.sz
  intro k
  induction k with
  | zero =>
    intro c a b u hc
    have : c = szN α := by omega
    subst this
    exact ⟨u, by simp only [↓reduceIte, e144_29, e144_31, e144_32, e144_35, e144_36, e144_38, e144_41, e144_43, e144_45, e144_47, e144_49, e144_52, e144_53, e144_56, e144_57, e144_58, e144_60, e144_61, e144_63, e144_66, e144_67, e144_70, e144_71, e144_72, e144_73, e144_75, e144_77, e144_80, e144_82, e144_83, e144_86, e144_88, e144_91, e144_92, e144_94, e144_95, e144_98, e144_100, e144_103, e144_104, e144_105, e144_108, Int32.le_refl, cntF, aft_v, aft_n, Option.bind_some, rf_some, ck_i, ck_r, ck_n, nb0, nb1, nbi, Nat.reduceAdd, if_true, if_false, not_false_eq_true, not_true_eq_false]⟩
  | succ k ih =>
    intro c a b u hc
    have hcell : isCellC α 4 (J c) := rock_lt H (by omega)
    have l0 : ¬ J (szN α) ≤ J c := by rw [J_le (by omega) (by omega)]; omega
    rcases thing3 S (J c) with ⟨r, e, s⟩ | ⟨r, e, s⟩ | ⟨r, q, hq, e, s, ha, hcl⟩
    · have a1 : (-2 : Int32) < 0 := by decide
      have a2 : ¬ (-2 : Int32) < -2 := by decide
      have a3 : ¬ J n ≤ -2 := by rw [i32_le, J_ti (by omega), show (-2 : Int32).toInt = -2 from rfl]; omega
      have stp : Run 144 29 [some (.ref (3)), some (.int (J (szN α))), some (.int (J n)), some (.int (a)), some (.int (b)), some (.int (0)), some (.int (J c)), u, none, none, none, none, none] [] (HC z α π β η o od) = Run 144 29 [some (.ref (3)), some (.int (J (szN α))), some (.int (J n)), some (.int (a)), some (.int (b + 1)), some (.int (0)), some (.int (J (c + 1))), some (.int (-2)), none, none, none, none, none] [] (HC z α π β η o od) := by
        rw [e144_29]
        simp only [↓reduceIte, e144_31, e144_32, e144_35, e144_36, e144_38, e144_41, e144_43, e144_45, e144_47, e144_49, e144_52, e144_53, e144_56, e144_57, e144_58, e144_60, e144_61, e144_63, e144_66, e144_67, e144_70, e144_71, e144_72, e144_73, e144_75, e144_77, e144_80, e144_82, e144_83, e144_86, e144_88, e144_91, e144_92, e144_94, e144_95, e144_98, e144_100, e144_103, e144_104, e144_105, e144_108, l0, t127 H hcell, e, a1, a2, a3, J_succ, Int32.add_zero, aft_v, aft_n, Option.bind_some, rf_some, ck_i, ck_r, ck_n, nb0, nb1, nbi, Nat.reduceAdd, if_true, if_false, not_false_eq_true, not_true_eq_false]
      obtain ⟨u', g⟩ := ih (c + 1) a (b + 1) (some (.int (-2))) (by omega)
      rw [stp, cntF, cntF, if_neg (fun w => w s), if_pos r]
      exact ⟨u', g⟩
    · have a1 : (-1 : Int32) < 0 := by decide
      have a2 : ¬ (-1 : Int32) < -2 := by decide
      have a4 : ¬ (-1 : Int32) = -2 := by decide
      have a3 : ¬ J n ≤ -1 := by rw [i32_le, J_ti (by omega), tim1]; omega
      have stp : Run 144 29 [some (.ref (3)), some (.int (J (szN α))), some (.int (J n)), some (.int (a)), some (.int (b)), some (.int (0)), some (.int (J c)), u, none, none, none, none, none] [] (HC z α π β η o od) = Run 144 29 [some (.ref (3)), some (.int (J (szN α))), some (.int (J n)), some (.int (a)), some (.int (b)), some (.int (0)), some (.int (J (c + 1))), some (.int (-1)), none, none, none, none, none] [] (HC z α π β η o od) := by
        rw [e144_29]
        simp only [↓reduceIte, e144_31, e144_32, e144_35, e144_36, e144_38, e144_41, e144_43, e144_45, e144_47, e144_49, e144_52, e144_53, e144_56, e144_57, e144_58, e144_60, e144_61, e144_63, e144_66, e144_67, e144_70, e144_71, e144_72, e144_73, e144_75, e144_77, e144_80, e144_82, e144_83, e144_86, e144_88, e144_91, e144_92, e144_94, e144_95, e144_98, e144_100, e144_103, e144_104, e144_105, e144_108, l0, t127 H hcell, e, a1, a2, a3, a4, J_succ, Int32.add_zero, aft_v, aft_n, Option.bind_some, rf_some, ck_i, ck_r, ck_n, nb0, nb1, nbi, Nat.reduceAdd, if_true, if_false, not_false_eq_true, not_true_eq_false]
      obtain ⟨u', g⟩ := ih (c + 1) a b (some (.int (-1))) (by omega)
      rw [stp, cntF, cntF, if_neg (fun w => w s), if_neg r]
      exact ⟨u', g⟩
    · have a1 : ¬ J q < 0 := by rw [i32_lt, J_ti (by omega), ti0]; omega
      have a2 : ¬ J q < -2 := by rw [i32_lt, J_ti (by omega), show (-2 : Int32).toInt = -2 from rfl]; omega
      have a4 : ¬ J q = -2 := by rw [i32_eq, J_ti (by omega), show (-2 : Int32).toInt = -2 from rfl]; omega
      have a3 : ¬ J n ≤ J q := by rw [J_le (by omega) (by omega)]; omega
      have stp : Run 144 29 [some (.ref (3)), some (.int (J (szN α))), some (.int (J n)), some (.int (a)), some (.int (b)), some (.int (0)), some (.int (J c)), u, none, none, none, none, none] [] (HC z α π β η o od) = Run 144 29 [some (.ref (3)), some (.int (J (szN α))), some (.int (J n)), some (.int (a + 1)), some (.int (b)), some (.int (0)), some (.int (J (c + 1))), some (.int (J q)), none, none, none, none, none] [] (HC z α π β η o od) := by
        rw [e144_29]
        simp only [↓reduceIte, e144_31, e144_32, e144_35, e144_36, e144_38, e144_41, e144_43, e144_45, e144_47, e144_49, e144_52, e144_53, e144_56, e144_57, e144_58, e144_60, e144_61, e144_63, e144_66, e144_67, e144_70, e144_71, e144_72, e144_73, e144_75, e144_77, e144_80, e144_82, e144_83, e144_86, e144_88, e144_91, e144_92, e144_94, e144_95, e144_98, e144_100, e144_103, e144_104, e144_105, e144_108, l0, t127 H hcell, e, a1, a2, a3, a4, t126_1a H hq ha, hcl, J_succ, Int32.add_zero, aft_v, aft_n, Option.bind_some, rf_some, ck_i, ck_r, ck_n, nb0, nb1, nbi, Nat.reduceAdd, if_true, if_false, not_false_eq_true, not_true_eq_false]
      obtain ⟨u', g⟩ := ih (c + 1) (a + 1) b (some (.int (J q))) (by omega)
      rw [stp, cntF, cntF, if_pos (by rw [s]; exact Jm1 (by omega)), if_neg r]
      exact ⟨u', g⟩
/-- a ship's numbers are read -/
theorem t144_2a (S : Sg α n) {i : Nat} (hi : i < n) (N a b c : Int32) (u7 u8 u9 u10 u11 u12 : Option Value) : Run 144 114 [some (.ref (3)), some (.int (N)), some (.int (J n)), some (.int (a)), some (.int (b)), some (.int (c)), some (.int (J i)), u7, u8, u9, u10, u11, u12] [] (HC z α π β η o od) = Run 144 192 [some (.ref (3)), some (.int (N)), some (.int (J n)), some (.int (a)), some (.int (b)), some (.int (if 0 < α (7 + i) 3 then c + 1 else c)), some (.int (J i)), some (.int (α (7 + i) 3)), some (.int (if 0 < α (7 + i) 3 then α (7 + i) 1 else -1)), some (.int (α (7 + i) 12)), some (.int (α (7 + i) 4)), some (.int (spdC α (7 + i) (hdA α (7 + i)) (wdN α))), some (.int (J (angN (hdA α (7 + i)) (wdN α))))] [] (HC z α π β η o od) := by
  have H := S.1
  have h8 := H.n8
  have l0 : ¬ J n ≤ J i := by rw [J_le (by omega) (by omega)]; omega
  by_cases ha : 0 < α (7 + i) 3
  · have hn : ¬ α (7 + i) 3 ≤ 0 := by rw [le_not]; exact fun w => w ha
    simp only [↓reduceIte, e144_114, e144_116, e144_117, e144_120, e144_121, e144_123, e144_124, e144_127, e144_129, e144_130, e144_132, e144_133, e144_136, e144_138, e144_139, e144_141, e144_143, e144_146, e144_148, e144_149, e144_151, e144_152, e144_155, e144_157, e144_158, e144_160, e144_162, e144_165, e144_167, e144_168, e144_170, e144_172, e144_175, e144_177, e144_179, e144_181, e144_184, e144_185, e144_188, e144_189, e144_190, l0, t126_3 H hi, t126_1a H hi ha, t126_11 H hi, t126_4 H hi, t126_12 H hi, t126_13 H hi, ha, hn, Int32.add_zero, aft_v, aft_n, Option.bind_some, rf_some, ck_i, ck_r, ck_n, nb0, nb1, nbi, Nat.reduceAdd, if_true, if_false, not_false_eq_true, not_true_eq_false]
  · have hn : α (7 + i) 3 ≤ 0 := by rw [le_not]; exact ha
    simp only [↓reduceIte, e144_114, e144_116, e144_117, e144_120, e144_121, e144_123, e144_124, e144_127, e144_129, e144_130, e144_132, e144_133, e144_136, e144_138, e144_139, e144_141, e144_143, e144_146, e144_148, e144_149, e144_151, e144_152, e144_155, e144_157, e144_158, e144_160, e144_162, e144_165, e144_167, e144_168, e144_170, e144_172, e144_175, e144_177, e144_179, e144_181, e144_184, e144_185, e144_188, e144_189, e144_190, l0, t126_3 H hi, t126_1s H hi ha, t126_11 H hi, t126_4 H hi, t126_12 H hi, t126_13 H hi, ha, hn, Int32.add_zero, aft_v, aft_n, Option.bind_some, rf_some, ck_i, ck_r, ck_n, nb0, nb1, nbi, Nat.reduceAdd, if_true, if_false, not_false_eq_true, not_true_eq_false]
/-- hull and place -/
theorem t144_2b (S : Sg α n) {i : Nat} (hi : i < n) (N a b c : Int32) (u9 u10 u11 u12 : Option Value) : Run 144 192 [some (.ref (3)), some (.int (N)), some (.int (J n)), some (.int (a)), some (.int (b)), some (.int (c)), some (.int (J i)), some (.int (α (7 + i) 3)), some (.int (if 0 < α (7 + i) 3 then α (7 + i) 1 else -1)), u9, u10, u11, u12] [] (HC z α π β η o od) = Run 144 244 [some (.ref (3)), some (.int (N)), some (.int (J n)), some (.int (a)), some (.int (b)), some (.int (c)), some (.int (J i)), some (.int (α (7 + i) 3)), some (.int (if 0 < α (7 + i) 3 then α (7 + i) 1 else -1)), u9, u10, u11, u12] [] (HC z α π β η o od) := by
  have H := S.1
  have h8 := H.n8
  have hh := H.hull i hi
  have hc := H.cell i hi
  have c1 : ¬ α (7 + i) 3 < 0 := by rw [i32_lt, ti0]; omega
  have c2 : ¬ 60 < α (7 + i) 3 := by rw [i32_lt, show (60 : Int32).toInt = 60 from rfl]; omega
  by_cases ha : 0 < α (7 + i) 3
  · have hn : ¬ α (7 + i) 3 ≤ 0 := by rw [le_not]; exact fun w => w ha
    have h0 : ¬ α (7 + i) 3 = 0 := by rw [i32_lt, ti0] at ha; rw [i32_eq, ti0]; omega
    have hm : ¬ α (7 + i) 1 = -1 := by rw [i32_eq, tim1]; omega
    simp only [↓reduceIte, e144_192, e144_194, e144_197, e144_199, e144_201, e144_204, e144_206, e144_209, e144_210, e144_213, e144_214, e144_216, e144_217, e144_220, e144_221, e144_224, e144_225, e144_228, e144_230, e144_233, e144_234, e144_236, e144_239, e144_241, c1, c2, ha, hn, h0, hm, t127 H (H.isC hi), at_own S hi ha, aft_v, aft_n, Option.bind_some, rf_some, ck_i, ck_r, ck_n, nb0, nb1, nbi, Nat.reduceAdd, if_true, if_false, not_false_eq_true, not_true_eq_false]
  · have hn : α (7 + i) 3 ≤ 0 := by rw [le_not]; exact ha
    have h0 : α (7 + i) 3 = 0 := by rw [i32_lt, ti0] at ha; rw [i32_eq, ti0]; omega
    simp only [↓reduceIte, e144_192, e144_194, e144_197, e144_199, e144_201, e144_204, e144_206, e144_209, e144_210, e144_213, e144_214, e144_216, e144_217, e144_220, e144_221, e144_224, e144_225, e144_228, e144_230, e144_233, e144_234, e144_236, e144_239, e144_241, c1, c2, ha, hn, eq_true h0, aft_v, aft_n, Option.bind_some, rf_some, ck_i, ck_r, ck_n, nb0, nb1, nbi, Nat.reduceAdd, if_true, if_false, not_false_eq_true, not_true_eq_false]
/-- the ranges -/
theorem t144_2c (S : Sg α n) {i : Nat} (hi : i < n) (N a b c : Int32) (u7 u8 u9 : Option Value) : Run 144 244 [some (.ref (3)), some (.int (N)), some (.int (J n)), some (.int (a)), some (.int (b)), some (.int (c)), some (.int (J i)), u7, u8, u9, some (.int (α (7 + i) 4)), some (.int (spdC α (7 + i) (hdA α (7 + i)) (wdN α))), some (.int (J (angN (hdA α (7 + i)) (wdN α))))] [] (HC z α π β η o od) = Run 144 408 [some (.ref (3)), some (.int (N)), some (.int (J n)), some (.int (a)), some (.int (b)), some (.int (c)), some (.int (J i)), u7, u8, u9, some (.int (α (7 + i) 4)), some (.int (spdC α (7 + i) (hdA α (7 + i)) (wdN α))), some (.int (J (angN (hdA α (7 + i)) (wdN α))))] [] (HC z α π β η o od) := by
  have H := S.1
  have h8 := H.n8
  have q1 := H.crew i hi
  have q2 := H.sails i hi
  have q3 := H.gl i hi
  have q4 := H.gr i hi
  have q5 := H.wl i hi
  have q6 := H.wr i hi
  have q7 := H.pts i hi
  have q8 := spd_bd H hi (hdA α (7 + i)) (wdN α)
  have q9 := ang_le _ (H.hdJ hi).1 _ H.wdJ.1
  have c1 : ¬ α (7 + i) 7 < 1 := by rw [i32_lt, ti1]; omega
  have c2 : ¬ α (7 + i) 4 < 0 := by rw [i32_lt, ti0]; omega
  have c3 : ¬ 20 < α (7 + i) 4 := by rw [i32_lt, show (20 : Int32).toInt = 20 from rfl]; omega
  have c4 : ¬ α (7 + i) 5 < 0 := by rw [i32_lt, ti0]; omega
  have c5 : ¬ α (7 + i) 6 < 0 := by rw [i32_lt, ti0]; omega
  have c6 : ¬ α (7 + i) 10 < 0 := by rw [i32_lt, ti0]; omega
  have c7 : ¬ 2 < α (7 + i) 10 := by rw [i32_lt, show (2 : Int32).toInt = 2 from rfl]; omega
  have c8 : ¬ α (7 + i) 11 < 0 := by rw [i32_lt, ti0]; omega
  have c9 : ¬ 2 < α (7 + i) 11 := by rw [i32_lt, show (2 : Int32).toInt = 2 from rfl]; omega
  have c10 : ¬ spdC α (7 + i) (hdA α (7 + i)) (wdN α) < 0 := by rw [i32_lt, ti0]; omega
  have c11 : ¬ 9 < spdC α (7 + i) (hdA α (7 + i)) (wdN α) := by rw [i32_lt, show (9 : Int32).toInt = 9 from rfl]; omega
  have c12 : ¬ α (7 + i) 9 < 0 := by rw [i32_lt, ti0]; omega
  have c13 : ¬ J (angN (hdA α (7 + i)) (wdN α)) < 0 := by rw [i32_lt, ti0, J_ti (by omega)]; omega
  have c14 : ¬ 3 < J (angN (hdA α (7 + i)) (wdN α)) := by rw [i32_lt, show (3 : Int32).toInt = 3 from rfl, J_ti (by omega)]; omega
  have c15 : (J (angN (hdA α (7 + i)) (wdN α)) = 3) = (angN (hdA α (7 + i)) (wdN α) = 3) := ang3 (H.hdJ hi).1 H.wdJ.1
  have c16 := spd_0 H hi
  by_cases A : angN (hdA α (7 + i)) (wdN α) = 3
  · have Z := c16.mpr (Or.inl A)
    simp only [↓reduceIte, e144_244, e144_245, e144_247, e144_249, e144_252, e144_253, e144_256, e144_258, e144_261, e144_263, e144_265, e144_268, e144_269, e144_271, e144_272, e144_275, e144_278, e144_279, e144_281, e144_283, e144_286, e144_289, e144_290, e144_292, e144_294, e144_297, e144_300, e144_301, e144_303, e144_305, e144_308, e144_309, e144_312, e144_313, e144_315, e144_317, e144_320, e144_323, e144_324, e144_326, e144_328, e144_331, e144_332, e144_335, e144_337, e144_340, e144_342, e144_344, e144_347, e144_348, e144_350, e144_352, e144_355, e144_358, e144_360, e144_363, e144_365, e144_366, e144_369, e144_371, e144_374, e144_375, e144_378, e144_379, e144_381, e144_382, e144_385, e144_387, e144_390, e144_391, e144_392, e144_395, e144_398, e144_399, e144_402, e144_403, e144_406, e144_407, t126_7 H hi, t126_5 H hi, t126_6 H hi, t126_9 H hi, t126_10 H hi, t126_8 H hi, c1, c2, c3, c4, c5, c6, c7, c8, c9, c10, c11, c12, c13, c14, c15, eq_true A, eq_true Z, aft_v, aft_n, Option.bind_some, rf_some, ck_i, ck_r, ck_n, nb0, nb1, nbi, Nat.reduceAdd, if_true, if_false, not_false_eq_true, not_true_eq_false]
  · by_cases B : α (7 + i) 4 = 0
    · have Z := c16.mpr (Or.inr (Or.inl B))
      simp only [↓reduceIte, e144_244, e144_245, e144_247, e144_249, e144_252, e144_253, e144_256, e144_258, e144_261, e144_263, e144_265, e144_268, e144_269, e144_271, e144_272, e144_275, e144_278, e144_279, e144_281, e144_283, e144_286, e144_289, e144_290, e144_292, e144_294, e144_297, e144_300, e144_301, e144_303, e144_305, e144_308, e144_309, e144_312, e144_313, e144_315, e144_317, e144_320, e144_323, e144_324, e144_326, e144_328, e144_331, e144_332, e144_335, e144_337, e144_340, e144_342, e144_344, e144_347, e144_348, e144_350, e144_352, e144_355, e144_358, e144_360, e144_363, e144_365, e144_366, e144_369, e144_371, e144_374, e144_375, e144_378, e144_379, e144_381, e144_382, e144_385, e144_387, e144_390, e144_391, e144_392, e144_395, e144_398, e144_399, e144_402, e144_403, e144_406, e144_407, t126_7 H hi, t126_5 H hi, t126_6 H hi, t126_9 H hi, t126_10 H hi, t126_8 H hi, c1, c2, c3, c4, c5, c6, c7, c8, c9, c10, c11, c12, c13, c14, c15, eq_false A, eq_true B, eq_true Z, aft_v, aft_n, Option.bind_some, rf_some, ck_i, ck_r, ck_n, nb0, nb1, nbi, Nat.reduceAdd, if_true, if_false, not_false_eq_true, not_true_eq_false]
    · by_cases C : α 4 3 = 0
      · have Z := c16.mpr (Or.inr (Or.inr C))
        simp only [↓reduceIte, e144_244, e144_245, e144_247, e144_249, e144_252, e144_253, e144_256, e144_258, e144_261, e144_263, e144_265, e144_268, e144_269, e144_271, e144_272, e144_275, e144_278, e144_279, e144_281, e144_283, e144_286, e144_289, e144_290, e144_292, e144_294, e144_297, e144_300, e144_301, e144_303, e144_305, e144_308, e144_309, e144_312, e144_313, e144_315, e144_317, e144_320, e144_323, e144_324, e144_326, e144_328, e144_331, e144_332, e144_335, e144_337, e144_340, e144_342, e144_344, e144_347, e144_348, e144_350, e144_352, e144_355, e144_358, e144_360, e144_363, e144_365, e144_366, e144_369, e144_371, e144_374, e144_375, e144_378, e144_379, e144_381, e144_382, e144_385, e144_387, e144_390, e144_391, e144_392, e144_395, e144_398, e144_399, e144_402, e144_403, e144_406, e144_407, t126_7 H hi, t126_5 H hi, t126_6 H hi, t126_9 H hi, t126_10 H hi, t126_8 H hi, t125_3 H, c1, c2, c3, c4, c5, c6, c7, c8, c9, c10, c11, c12, c13, c14, c15, eq_false A, eq_false B, eq_true C, eq_true Z, aft_v, aft_n, Option.bind_some, rf_some, ck_i, ck_r, ck_n, nb0, nb1, nbi, Nat.reduceAdd, if_true, if_false, not_false_eq_true, not_true_eq_false]
      · have Z : ¬ spdC α (7 + i) (hdA α (7 + i)) (wdN α) = 0 := fun w => (c16.mp w).elim A (fun w => w.elim B C)
        simp only [↓reduceIte, e144_244, e144_245, e144_247, e144_249, e144_252, e144_253, e144_256, e144_258, e144_261, e144_263, e144_265, e144_268, e144_269, e144_271, e144_272, e144_275, e144_278, e144_279, e144_281, e144_283, e144_286, e144_289, e144_290, e144_292, e144_294, e144_297, e144_300, e144_301, e144_303, e144_305, e144_308, e144_309, e144_312, e144_313, e144_315, e144_317, e144_320, e144_323, e144_324, e144_326, e144_328, e144_331, e144_332, e144_335, e144_337, e144_340, e144_342, e144_344, e144_347, e144_348, e144_350, e144_352, e144_355, e144_358, e144_360, e144_363, e144_365, e144_366, e144_369, e144_371, e144_374, e144_375, e144_378, e144_379, e144_381, e144_382, e144_385, e144_387, e144_390, e144_391, e144_392, e144_395, e144_398, e144_399, e144_402, e144_403, e144_406, e144_407, t126_7 H hi, t126_5 H hi, t126_6 H hi, t126_9 H hi, t126_10 H hi, t126_8 H hi, t125_3 H, c1, c2, c3, c4, c5, c6, c7, c8, c9, c10, c11, c12, c13, c14, c15, eq_false A, eq_false B, eq_false C, eq_false Z, aft_v, aft_n, Option.bind_some, rf_some, ck_i, ck_r, ck_n, nb0, nb1, nbi, Nat.reduceAdd, if_true, if_false, not_false_eq_true, not_true_eq_false]
/-- the rope -/
theorem t144_2d (S : Sg α n) {i : Nat} (hi : i < n) (N a b c : Int32) (u10 u11 u12 : Option Value) : Run 144 408 [some (.ref (3)), some (.int (N)), some (.int (J n)), some (.int (a)), some (.int (b)), some (.int (c)), some (.int (J i)), some (.int (α (7 + i) 3)), some (.int (if 0 < α (7 + i) 3 then α (7 + i) 1 else -1)), some (.int (α (7 + i) 12)), u10, u11, u12] [] (HC z α π β η o od) = Run 144 114 [some (.ref (3)), some (.int (N)), some (.int (J n)), some (.int (a)), some (.int (b)), some (.int (c)), some (.int (J (i + 1))), some (.int (α (7 + i) 3)), some (.int (if 0 < α (7 + i) 3 then α (7 + i) 1 else -1)), some (.int (α (7 + i) 12)), u10, u11, u12] [] (HC z α π β η o od) := by
  have H := S.1
  have h8 := H.n8
  rcases H.part i hi with e | ⟨j, hj, hij, e⟩
  · simp only [↓reduceIte, e144_408, e144_410, e144_411, e144_414, e144_415, e144_417, e144_419, e144_422, e144_424, e144_427, e144_429, e144_432, e144_433, e144_435, e144_436, e144_439, e144_442, e144_443, e144_445, e144_446, e144_449, e144_450, e144_452, e144_453, e144_456, e144_459, e144_460, e144_462, e144_463, e144_465, e144_466, e144_469, e144_472, e144_473, e144_476, e144_477, e144_478, e144_481, eq_true e, J_succ, aft_v, aft_n, Option.bind_some, rf_some, ck_i, ck_r, ck_n, nb0, nb1, nbi, Nat.reduceAdd, if_true, if_false, not_false_eq_true, not_true_eq_false]
  · obtain ⟨t1, t2, t3, t4, t5⟩ := S.2.2.2 i j hi hj e
    have n1 : ¬ J j = -1 := Jm1 (by omega)
    have n2 : ¬ α (7 + i) 3 = 0 := by rw [i32_lt, ti0] at t2; rw [i32_eq, ti0]; omega
    have n3 : ¬ α (7 + j) 3 = 0 := by rw [i32_lt, ti0] at t3; rw [i32_eq, ti0]; omega
    have n4 : ¬ α (7 + j) 0 = α (7 + i) 0 := fun w => t4 w.symm
    rw [e]
    simp only [↓reduceIte, e144_408, e144_410, e144_411, e144_414, e144_415, e144_417, e144_419, e144_422, e144_424, e144_427, e144_429, e144_432, e144_433, e144_435, e144_436, e144_439, e144_442, e144_443, e144_445, e144_446, e144_449, e144_450, e144_452, e144_453, e144_456, e144_459, e144_460, e144_462, e144_463, e144_465, e144_466, e144_469, e144_472, e144_473, e144_476, e144_477, e144_478, e144_481, n1, n2, n3, n4, t126_11 H hj, t1, t126_3 H hj, t126_0 H hj, t126_0 H hi, t126_1a H hj t3, t2, t128 H (H.isC hi) (H.isC hj), t5, J_succ, aft_v, aft_n, Option.bind_some, rf_some, ck_i, ck_r, ck_n, nb0, nb1, nbi, Nat.reduceAdd, if_true, if_false, not_false_eq_true, not_true_eq_false]
theorem t144_2 (S : Sg α n) (N a b : Int32) : ∀ k i (c : Int32) (u7 u8 u9 u10 u11 u12 : Option Value), i + k = n → ∃ u7' u8' u9' u10' u11' u12', Run 144 114 [some (.ref (3)), some (.int (N)), some (.int (J n)), some (.int (a)), some (.int (b)), some (.int (c)), some (.int (J i)), u7, u8, u9, u10, u11, u12] [] (HC z α π β η o od) = Run 144 484 [some (.ref (3)), some (.int (N)), some (.int (J n)), some (.int (a)), some (.int (b)), some (.int (cntF (fun i => 0 < α (7 + i) 3) k i c)), some (.int (J n)), u7', u8', u9', u10', u11', u12'] [] (HC z α π β η o od) := by
  have h8 := S.1.n8
  intro k
  induction k with
  | zero =>
    intro i c u7 u8 u9 u10 u11 u12 hi
    have : i = n := by omega
    subst this
    exact ⟨u7, u8, u9, u10, u11, u12, by simp only [↓reduceIte, e144_114, e144_116, e144_117, e144_120, e144_121, e144_123, e144_124, e144_127, e144_129, e144_130, e144_132, e144_133, e144_136, e144_138, e144_139, e144_141, e144_143, e144_146, e144_148, e144_149, e144_151, e144_152, e144_155, e144_157, e144_158, e144_160, e144_162, e144_165, e144_167, e144_168, e144_170, e144_172, e144_175, e144_177, e144_179, e144_181, e144_184, e144_185, e144_188, e144_189, e144_190, Int32.le_refl, cntF, aft_v, aft_n, Option.bind_some, rf_some, ck_i, ck_r, ck_n, nb0, nb1, nbi, Nat.reduceAdd, if_true, if_false, not_false_eq_true, not_true_eq_false]⟩
  | succ k ih =>
    intro i c u7 u8 u9 u10 u11 u12 hi
    have hi' : i < n := by omega
    rw [t144_2a S hi', t144_2b S hi', t144_2c S hi', t144_2d S hi', cntF]
    exact ih (i + 1) _ _ _ _ _ _ _ (by omega)
theorem t144 (S : Sg α n) : Run 144 0 [some (.ref (3)), none, none, none, none, none, none, none, none, none, none, none, none] [] (HC z α π β η o od) = some (.inl (some (.int (1))), (HC z α π β η o od)) := by
  have H := S.1
  have h8 := H.n8
  have hs := H.sz
  obtain ⟨v1, v2, v3, v4, v5, v6⟩ := bal_ok H
  obtain ⟨u, e1⟩ := t144_1 (z := z) (π := π) (β := β) (η := η) (o := o) (od := od) S (szN α) 0 0 0 none (by omega)
  obtain ⟨u7, u8, u9, u10, u11, u12, e2⟩ := t144_2 (z := z) (π := π) (β := β) (η := η) (o := o) (od := od) S (J (szN α)) (cntF (fun i => 0 < α (7 + i) 3) n 0 0) (valC α n 8) n 0 0 u none none none none none (by omega)
  rw [show J 0 = (0 : Int32) from rfl] at e1 e2
  rw [cnt_on S n (Nat.le_refl n), cnt_rk H] at e1
  have w0 : Run 144 0 [some (.ref (3)), none, none, none, none, none, none, none, none, none, none, none, none] [] (HC z α π β η o od) = Run 144 29 [some (.ref (3)), some (.int (J (szN α))), some (.int (J n)), some (.int (0)), some (.int (0)), some (.int (0)), some (.int (0)), none, none, none, none, none, none] [] (HC z α π β η o od) := by
    simp only [↓reduceIte, e144_0, e144_1, e144_2, e144_5, e144_6, e144_7, e144_10, e144_11, e144_12, e144_13, e144_14, e144_17, e144_18, e144_19, e144_20, e144_21, e144_23, e144_24, e144_26, e144_27, t125_0 H, t125_1 H, t125_5 H, hs.1, H.hn, aft_v, aft_n, Option.bind_some, rf_some, ck_i, ck_r, ck_n, nb0, nb1, nbi, Nat.reduceAdd, if_true, if_false, not_false_eq_true, not_true_eq_false]
  have w1 : ∀ (N a b c d : Int32) (u : Option Value), Run 144 111 [some (.ref (3)), some (.int (N)), some (.int (J n)), some (.int (a)), some (.int (b)), some (.int (c)), some (.int (d)), u, none, none, none, none, none] [] (HC z α π β η o od) = Run 144 114 [some (.ref (3)), some (.int (N)), some (.int (J n)), some (.int (a)), some (.int (b)), some (.int (c)), some (.int (0)), u, none, none, none, none, none] [] (HC z α π β η o od) := fun N a b c d u => by
    simp only [e144_111, e144_112, aft_v, aft_n, Option.bind_some, rf_some, ck_i, ck_r, ck_n, nb0, nb1, nbi, Nat.reduceAdd, if_true, if_false, not_false_eq_true, not_true_eq_false]
  rw [w0, e1, w1, e2]
  have cs := cnt_sides H
  obtain ⟨m, m1, m2, m3⟩ := cnt_J (fun i => 0 < α (7 + i) 3) n 0 0
  have x0 : (0 < cntF (fun i => 0 < α (7 + i) 3) n 0 0) ∨ (¬ 0 < cntF (fun i => 0 < α (7 + i) 3) n 0 0 ∧ cntF (fun i => 0 < α (7 + i) 3) n 0 0 = 0) := by
    have e0 : cntF (fun i => 0 < α (7 + i) 3) n 0 0 = J m := by rw [Nat.zero_add] at m2; exact m2
    rw [e0, i32_lt, i32_eq, ti0, J_ti (by omega)]
    omega
  have d0 : sideC 0 := Or.inl rfl
  have d1 : sideC 1 := Or.inr rfl
  rcases rocks_ok H with ⟨r1, r2⟩ | ⟨r1, r2, r3⟩ <;> rcases x0 with x0 | ⟨x0, x1⟩
  · simp only [↓reduceIte, e144_484, e144_485, e144_486, e144_489, e144_491, e144_492, e144_493, e144_496, e144_498, e144_499, e144_501, e144_504, e144_505, e144_507, e144_510, e144_511, e144_513, e144_516, e144_517, e144_519, e144_522, e144_524, e144_525, e144_527, e144_530, e144_533, e144_535, e144_538, e144_539, e144_542, e144_543, e144_544, e144_546, e144_549, e144_550, e144_553, e144_554, e144_557, e144_558, e144_561, e144_563, e144_566, e144_567, e144_568, e144_570, e144_573, e144_576, e144_578, e144_581, e144_583, e144_584, e144_585, e144_588, e144_590, e144_591, e144_592, e144_595, e144_597, e144_599, e144_600, e144_603, e144_604, e144_607, e144_609, e144_611, e144_612, e144_615, e144_616, e144_619, e144_621, e144_624, e144_626, e144_629, e144_630, e144_633, e144_634, e144_637, e144_638, t141 H d0, t141 H d1, t125_6 H, t125_7 H, t125_8 H, t125_9 H, cs, eq_true r1, eq_true r2, v1, v2, v3, v4, v5, x0, aft_v, aft_n, Option.bind_some, rf_some, ck_i, ck_r, ck_n, nb0, nb1, nbi, Nat.reduceAdd, if_true, if_false, not_false_eq_true, not_true_eq_false]
  · simp only [↓reduceIte, e144_484, e144_485, e144_486, e144_489, e144_491, e144_492, e144_493, e144_496, e144_498, e144_499, e144_501, e144_504, e144_505, e144_507, e144_510, e144_511, e144_513, e144_516, e144_517, e144_519, e144_522, e144_524, e144_525, e144_527, e144_530, e144_533, e144_535, e144_538, e144_539, e144_542, e144_543, e144_544, e144_546, e144_549, e144_550, e144_553, e144_554, e144_557, e144_558, e144_561, e144_563, e144_566, e144_567, e144_568, e144_570, e144_573, e144_576, e144_578, e144_581, e144_583, e144_584, e144_585, e144_588, e144_590, e144_591, e144_592, e144_595, e144_597, e144_599, e144_600, e144_603, e144_604, e144_607, e144_609, e144_611, e144_612, e144_615, e144_616, e144_619, e144_621, e144_624, e144_626, e144_629, e144_630, e144_633, e144_634, e144_637, e144_638, t141 H d0, t141 H d1, t125_6 H, t125_7 H, t125_8 H, t125_9 H, cs, eq_true r1, eq_true r2, v1, v2, v3, v4, v5, x0, eq_true (v6 x1), aft_v, aft_n, Option.bind_some, rf_some, ck_i, ck_r, ck_n, nb0, nb1, nbi, Nat.reduceAdd, if_true, if_false, not_false_eq_true, not_true_eq_false]
  · have th : thingC α n (valC α n 9) = -2 := by unfold thingC; rw [if_pos r3]
    simp only [↓reduceIte, e144_484, e144_485, e144_486, e144_489, e144_491, e144_492, e144_493, e144_496, e144_498, e144_499, e144_501, e144_504, e144_505, e144_507, e144_510, e144_511, e144_513, e144_516, e144_517, e144_519, e144_522, e144_524, e144_525, e144_527, e144_530, e144_533, e144_535, e144_538, e144_539, e144_542, e144_543, e144_544, e144_546, e144_549, e144_550, e144_553, e144_554, e144_557, e144_558, e144_561, e144_563, e144_566, e144_567, e144_568, e144_570, e144_573, e144_576, e144_578, e144_581, e144_583, e144_584, e144_585, e144_588, e144_590, e144_591, e144_592, e144_595, e144_597, e144_599, e144_600, e144_603, e144_604, e144_607, e144_609, e144_611, e144_612, e144_615, e144_616, e144_619, e144_621, e144_624, e144_626, e144_629, e144_630, e144_633, e144_634, e144_637, e144_638, t141 H d0, t141 H d1, t125_6 H, t125_7 H, t125_8 H, t125_9 H, t127 H r3.1, th, cs, eq_false r1, eq_false r2, v1, v2, v3, v4, v5, x0, aft_v, aft_n, Option.bind_some, rf_some, ck_i, ck_r, ck_n, nb0, nb1, nbi, Nat.reduceAdd, if_true, if_false, not_false_eq_true, not_true_eq_false]
  · have th : thingC α n (valC α n 9) = -2 := by unfold thingC; rw [if_pos r3]
    simp only [↓reduceIte, e144_484, e144_485, e144_486, e144_489, e144_491, e144_492, e144_493, e144_496, e144_498, e144_499, e144_501, e144_504, e144_505, e144_507, e144_510, e144_511, e144_513, e144_516, e144_517, e144_519, e144_522, e144_524, e144_525, e144_527, e144_530, e144_533, e144_535, e144_538, e144_539, e144_542, e144_543, e144_544, e144_546, e144_549, e144_550, e144_553, e144_554, e144_557, e144_558, e144_561, e144_563, e144_566, e144_567, e144_568, e144_570, e144_573, e144_576, e144_578, e144_581, e144_583, e144_584, e144_585, e144_588, e144_590, e144_591, e144_592, e144_595, e144_597, e144_599, e144_600, e144_603, e144_604, e144_607, e144_609, e144_611, e144_612, e144_615, e144_616, e144_619, e144_621, e144_624, e144_626, e144_629, e144_630, e144_633, e144_634, e144_637, e144_638, t141 H d0, t141 H d1, t125_6 H, t125_7 H, t125_8 H, t125_9 H, t127 H r3.1, th, cs, eq_false r1, eq_false r2, v1, v2, v3, v4, v5, x0, eq_true (v6 x1), aft_v, aft_n, Option.bind_some, rf_some, ck_i, ck_r, ck_n, nb0, nb1, nbi, Nat.reduceAdd, if_true, if_false, not_false_eq_true, not_true_eq_false]
end S86
