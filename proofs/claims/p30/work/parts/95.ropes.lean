/-! the law's check 'ropes': the walk -/
theorem r902 : ¬ (0 : Int32) = -902 := by decide
theorem r902' : ¬ (1 : Int32) = -902 := by decide
section S95
variable {z : Zr} {α β γ : Mem} {π : Nat → Nat} {η : Int64} {o : Nat → Int64} {od : Nat → UInt64} {n k : Nat}
/-- a ship that is not grappled -/
theorem t149_a (G : Gs α π n k) {i j : Nat} (hi : i < n) (hj : j < n) (x : Int32) (hm : α (7 + i) 12 = -1) : ∃ z' α' π' k', Run 149 0 [some (.ref (3)), some (.int (J i)), some (.int (J j)), some (.int (x)), none, none, none, none, none, none, none, none, none, none] [] (HC z α π β η o od) = some (.inl (some (.int 1)), HC z' α' π' β η o od) ∧ Zk z z' 3 ∧ Gs α' π' n k' := by
  have H := G.ok
  have h8 := H.n8
  by_cases hij : i = j
  · subst hij
    refine ⟨zb (zb z), α, π, k, ?_, Zk_le (Zk_b (Zk_b (Zk_r z))) (by omega), G⟩
    simp only [↓reduceIte, e149_0, e149_1, e149_2, e149_4, e149_7, e149_9, e149_11, e149_12, e149_15, e149_16, e149_17, e149_20, e149_23, e149_26, e149_27, e149_28, e149_29, e149_32, e149_34, e149_36, e149_39, e149_42, e149_43, e149_44, e149_47, e149_50, e149_53, e149_54, e149_55, e149_58, e149_61, e149_64, e149_65, e149_68, e149_69, e149_70, e149_72, e149_73, e149_76, e149_78, e149_79, e149_80, e149_83, e149_84, e149_85, e149_87, e149_90, e149_91, e149_94, e149_95, e149_96, e149_98, e149_101, e149_102, e149_105, e149_106, e149_107, e149_110, e149_113, e149_116, e149_117, e149_118, e149_119, e149_122, e149_125, e149_128, e149_129, e149_130, e149_133, e149_134, e149_137, e149_138, e149_141, e149_142, t126_11 H hi, eq_true hm, hm, t135_m H hi hm, t136_m H hi (Or.inl hm), eq_self, aft_v, aft_n, Option.bind_some, rf_some, ck_i, ck_r, ck_n, nb0, nb1, nbi, Nat.reduceAdd, if_true, if_false, not_false_eq_true, not_true_eq_false]
  · have hne : ¬ J i = J j := Jne (by omega) (by omega) hij
    by_cases hc : canTieC α i j
    · obtain ⟨α1, π1, k1, r1, D1, e1, e2⟩ := t134 (z := z) (β := β) (η := η) (o := o) (od := od) G hi hj hij hc
      have G1 := D1.g
      have H1 := G1.ok
      obtain ⟨t1, t2, t3, t4, t5⟩ := G1.1.2.2.2 i j hi hj e1
      have n1 : ¬ α1 (7 + i) 12 = -1 := by rw [e1]; exact Jm1 (by omega)
      have n2 : ¬ α1 (7 + j) 12 = -1 := by rw [e2]; exact Jm1 (by omega)
      obtain ⟨m, m1, m2⟩ := tie_even G1.1
      rw [m2] at r1
      have m0 : ¬ m = 0 := fun w => by
        obtain ⟨q, q1, q2, q3⟩ := cnt_J (fun q => ¬ α1 (7 + q) 12 = -1) n 0 0
        have q2 : cntF (fun q => ¬ α1 (7 + q) 12 = -1) n 0 0 = J q := by rw [Nat.zero_add] at q2; exact q2
        rw [m2, J_eq (by omega) (by omega)] at q2
        exact q3.mp (by omega) i (Nat.zero_le _) (by omega) n1
      have l1 : ¬ J (2 * m) = -902 := Jn902 (by omega)
      have l2 : ¬ J (2 * m) ≤ 1 := by rw [show (1 : Int32) = J 1 from rfl, J_le (by omega) (by omega)]; omega
      have l3 : J (2 * m) - J (2 * m) / 2 * 2 = 0 := by
        rw [J_div2 (by omega), J_mod2 (by omega), show 2 * m % 2 = 0 by omega]; rfl
      have nm : ¬ canMoveC α1 n i := fun w => n1 w.1.2.2.1
      have ns : ¬ canSwingC α1 j 1 := fun w => n2 w.1.2.2.1
      obtain ⟨α2, r, r2, F2, rv⟩ := t137 (z := zb (zb z)) (π := π1) (β := β) (η := η) (o := o) (od := od) H1 hi
      rw [reach_tied H1 hi t2 n1 rv] at r2
      refine ⟨zb (zb z), α2, π1, k1, ?_, Zk_le (Zk_b (Zk_b (Zk_r z))) (by omega), Gs_fc G1 F2⟩
      simp only [↓reduceIte, e149_0, e149_1, e149_2, e149_4, e149_7, e149_9, e149_11, e149_12, e149_15, e149_16, e149_17, e149_20, e149_23, e149_26, e149_27, e149_28, e149_29, e149_32, e149_34, e149_36, e149_39, e149_42, e149_43, e149_44, e149_47, e149_50, e149_53, e149_54, e149_55, e149_58, e149_61, e149_64, e149_65, e149_68, e149_69, e149_70, e149_72, e149_73, e149_76, e149_78, e149_79, e149_80, e149_83, e149_84, e149_85, e149_87, e149_90, e149_91, e149_94, e149_95, e149_96, e149_98, e149_101, e149_102, e149_105, e149_106, e149_107, e149_110, e149_113, e149_116, e149_117, e149_118, e149_119, e149_122, e149_125, e149_128, e149_129, e149_130, e149_133, e149_134, e149_137, e149_138, e149_141, e149_142, t126_11 H hi, eq_true hm, hm, hne, r1, l1, l2, l3, zz2, t126_11 H1 hi, e1, t126_11 H1 hj, e2, t130_m H1 hi nm, t131_m H1 hj (Or.inr rfl) ns, r2, eq_self, aft_v, aft_n, Option.bind_some, rf_some, ck_i, ck_r, ck_n, nb0, nb1, nbi, Nat.reduceAdd, if_true, if_false, not_false_eq_true, not_true_eq_false]
    · refine ⟨zb (zb (zb z)), α, π, k, ?_, Zk_b (Zk_b (Zk_b (Zk_r z))), G⟩
      simp only [↓reduceIte, e149_0, e149_1, e149_2, e149_4, e149_7, e149_9, e149_11, e149_12, e149_15, e149_16, e149_17, e149_20, e149_23, e149_26, e149_27, e149_28, e149_29, e149_32, e149_34, e149_36, e149_39, e149_42, e149_43, e149_44, e149_47, e149_50, e149_53, e149_54, e149_55, e149_58, e149_61, e149_64, e149_65, e149_68, e149_69, e149_70, e149_72, e149_73, e149_76, e149_78, e149_79, e149_80, e149_83, e149_84, e149_85, e149_87, e149_90, e149_91, e149_94, e149_95, e149_96, e149_98, e149_101, e149_102, e149_105, e149_106, e149_107, e149_110, e149_113, e149_116, e149_117, e149_118, e149_119, e149_122, e149_125, e149_128, e149_129, e149_130, e149_133, e149_134, e149_137, e149_138, e149_141, e149_142, t126_11 H hi, eq_true hm, hm, hne, t134_m H hi hj hij hc, t135_m H hi hm, t136_m H hi (Or.inl hm), eq_self, aft_v, aft_n, Option.bind_some, rf_some, ck_i, ck_r, ck_n, nb0, nb1, nbi, Nat.reduceAdd, if_true, if_false, not_false_eq_true, not_true_eq_false]
/-- a ship that is grappled -/
theorem t149_b (G : Gs α π n k) {i j p : Nat} (hi : i < n) (hp : p < n) (hpi : p ≠ i) (x : Int32) (hm : α (7 + i) 12 = J p) : ∃ z' α' π' k', Run 149 0 [some (.ref (3)), some (.int (J i)), some (.int (J j)), some (.int (x)), none, none, none, none, none, none, none, none, none, none] [] (HC z α π β η o od) = some (.inl (some (.int 1)), HC z' α' π' β η o od) ∧ Zk z z' 3 ∧ Gs α' π' n k' := by
  have H := G.ok
  have h8 := H.n8
  have nm : ¬ J p = -1 := Jm1 (by omega)
  have ca := H.crew i hi
  have cb := H.crew p hp
  have w0 : Run 149 0 [some (.ref (3)), some (.int (J i)), some (.int (J j)), some (.int (x)), none, none, none, none, none, none, none, none, none, none] [] (HC z α π β η o od) = Run 149 194 [some (.ref (3)), some (.int (J i)), some (.int (J j)), some (.int (x)), some (.int (J p)), some (.int (α (7 + i) 0)), some (.int (α (7 + i) 7)), some (.int (α (7 + p) 7)), some (.int (α (7 + i) 13)), some (.int (cntF (fun i => 0 < α (7 + i) 3) n 0 0)), none, none, none, none] [] (HC z α π β η o od) := by
    simp only [↓reduceIte, e149_0, e149_1, e149_2, e149_4, e149_7, e149_9, e149_11, e149_12, e149_143, e149_144, e149_145, e149_146, e149_149, e149_151, e149_152, e149_153, e149_155, e149_158, e149_160, e149_161, e149_163, e149_165, e149_168, e149_170, e149_171, e149_172, e149_174, e149_177, e149_179, e149_180, e149_182, e149_185, e149_186, e149_188, e149_191, e149_192, t126_11 H hi, hm, nm, t126_0 H hi, t126_7 H hi, t126_7 H hp, t126_14 H hi, t125_6 H, t125_7 H, cnt_sides H, aft_v, aft_n, Option.bind_some, rf_some, ck_i, ck_r, ck_n, nb0, nb1, nbi, Nat.reduceAdd, if_true, if_false, not_false_eq_true, not_true_eq_false]
  rw [w0]
  by_cases l4 : lowN x 4 = 0
  · obtain ⟨α1, π1, k1, r1, D1, e1, e2, e3⟩ := t135 (z := z) (β := β) (η := η) (o := o) (od := od) G hi hp hm
    have H1 := D1.g.ok
    refine ⟨z, α1, π1, k1, ?_, Zk_le (Zk_r z) (by omega), D1.g⟩
    simp only [↓reduceIte, e149_194, e149_195, e149_196, e149_199, e149_202, e149_203, e149_204, e149_207, e149_209, e149_212, e149_213, e149_215, e149_217, e149_220, e149_221, e149_224, e149_225, e149_226, e149_228, e149_231, e149_232, e149_235, e149_236, e149_237, e149_239, e149_242, e149_244, e149_247, e149_248, e149_251, e149_252, e149_253, e149_254, e149_255, e149_258, t120_4, l4, show J 0 = (0 : Int32) from rfl, r1, t126_11 H1 hp, e2, t126_11 H1 hi, e1, t126_7 H1 hi, e3, eq_self, aft_v, aft_n, Option.bind_some, rf_some, ck_i, ck_r, ck_n, nb0, nb1, nbi, Nat.reduceAdd, if_true, if_false, not_false_eq_true, not_true_eq_false]
  · have l4' : ¬ J (lowN x 4) = 0 := by rw [i32_eq, J_ti (by have := lowN_lt x (m := 4) (by decide); omega), ti0]; omega
    by_cases hb : α (7 + i) 13 = 0
    · obtain ⟨α1, π1, k1, r1, D1, e0, e13, eh, ey, en⟩ := t136 (z := z) (β := β) (η := η) (o := o) (od := od) G hi hp hpi hm hb
      have G1 := D1.g
      have H1 := G1.ok
      obtain ⟨y1, y2, y3, y4⟩ := crew_1 ca cb
      have ec : cntF (fun i => 0 < α1 (7 + i) 3) n 0 0 = cntF (fun i => 0 < α (7 + i) 3) n 0 0 := cnt_cg (fun i => 0 < α (7 + i) 3) (fun i => 0 < α1 (7 + i) 3) n 0 0 (fun y _ hy => by rw [eh y (by omega)])
      by_cases w : 0 < α (7 + p) 7 - (α (7 + i) 7 + 2) / 3
      · obtain ⟨f1, f2, f3⟩ := ey w
        rw [if_pos w] at r1
        have wn : ¬ α (7 + p) 7 - (α (7 + i) 7 + 2) / 3 ≤ 0 := by rw [le_not]; exact fun v => v w
        have b1 : ¬ α1 (7 + i) 13 = 0 := by rw [e13]; decide
        refine ⟨zb z, α1, π1, k1, ?_, Zk_le (Zk_b (Zk_r z)) (by omega), G1⟩
        have y5 : α1 (7 + i) 7 = if 1 ≤ α (7 + i) 7 - (α (7 + p) 7 + 3) / 4 then α (7 + i) 7 - (α (7 + p) 7 + 3) / 4 else 1 := by rw [f1]; exact y1
        have y6 : ¬ α (7 + i) 7 < α1 (7 + i) 7 := by rw [f1]; exact y2
        by_cases v : 1 ≤ α (7 + i) 7 - (α (7 + p) 7 + 3) / 4
        · rw [if_pos v] at y5
          rw [y5] at y6
          simp only [↓reduceIte, e149_194, e149_195, e149_196, e149_199, e149_253, e149_254, e149_255, e149_258, e149_260, e149_262, e149_265, e149_268, e149_270, e149_271, e149_274, e149_275, e149_276, e149_278, e149_281, e149_283, e149_286, e149_287, e149_290, e149_291, e149_292, e149_294, e149_296, e149_297, e149_298, e149_299, e149_300, e149_301, e149_303, e149_305, e149_308, e149_309, e149_312, e149_313, e149_315, e149_317, e149_320, e149_322, e149_324, e149_327, e149_328, e149_331, e149_332, e149_335, e149_336, e149_337, e149_338, e149_341, e149_343, e149_346, e149_347, e149_348, e149_350, e149_353, e149_354, e149_357, e149_358, e149_359, e149_361, e149_364, e149_366, e149_369, e149_370, e149_372, e149_375, e149_376, e149_378, e149_381, e149_382, e149_384, e149_387, e149_388, e149_391, e149_392, e149_394, e149_396, e149_399, e149_401, e149_404, e149_405, e149_407, e149_408, e149_411, e149_413, e149_416, e149_417, e149_418, e149_420, e149_423, e149_424, e149_427, e149_428, e149_430, e149_432, e149_435, e149_436, e149_439, e149_440, e149_442, e149_444, e149_447, e149_448, e149_451, e149_452, e149_453, e149_455, e149_458, e149_459, e149_462, e149_463, e149_464, e149_466, e149_469, e149_470, e149_472, e149_474, e149_477, e149_478, e149_480, e149_481, e149_482, e149_485, e149_486, e149_489, e149_490, e149_491, e149_493, e149_496, e149_497, e149_499, e149_501, e149_504, e149_506, e149_509, e149_510, e149_511, e149_513, e149_516, e149_518, e149_521, e149_522, e149_523, e149_525, e149_528, e149_530, e149_532, e149_533, e149_534, e149_535, e149_536, e149_537, e149_538, e149_541, e149_542, e149_545, e149_547, e149_549, e149_550, e149_551, e149_552, e149_553, e149_554, e149_557, e149_558, e149_559, e149_562, e149_565, e149_568, e149_569, e149_572, e149_573, t120_4, l4', r1, r902, z3, z4, w, wn, eq_true hb, t126_0 H1 hi, e0, t126_14 H1 hi, e13, t126_7 H1 hi, y5, y6, t125_6 H1, t125_7 H1, cnt_sides H1, ec, i1_0, t126_7 H1 hp, f2, t126_11 H1 hi, f3, v, t136_m H1 hi (Or.inr b1), eq_self, aft_v, aft_n, Option.bind_some, rf_some, ck_i, ck_r, ck_n, nb0, nb1, nbi, Nat.reduceAdd, if_true, if_false, not_false_eq_true, not_true_eq_false]
        · rw [if_neg v] at y5
          rw [y5] at y6
          simp only [↓reduceIte, e149_194, e149_195, e149_196, e149_199, e149_253, e149_254, e149_255, e149_258, e149_260, e149_262, e149_265, e149_268, e149_270, e149_271, e149_274, e149_275, e149_276, e149_278, e149_281, e149_283, e149_286, e149_287, e149_290, e149_291, e149_292, e149_294, e149_296, e149_297, e149_298, e149_299, e149_300, e149_301, e149_303, e149_305, e149_308, e149_309, e149_312, e149_313, e149_315, e149_317, e149_320, e149_322, e149_324, e149_327, e149_328, e149_331, e149_332, e149_335, e149_336, e149_337, e149_338, e149_341, e149_343, e149_346, e149_347, e149_348, e149_350, e149_353, e149_354, e149_357, e149_358, e149_359, e149_361, e149_364, e149_366, e149_369, e149_370, e149_372, e149_375, e149_376, e149_378, e149_381, e149_382, e149_384, e149_387, e149_388, e149_391, e149_392, e149_394, e149_396, e149_399, e149_401, e149_404, e149_405, e149_407, e149_408, e149_411, e149_413, e149_416, e149_417, e149_418, e149_420, e149_423, e149_424, e149_427, e149_428, e149_430, e149_432, e149_435, e149_436, e149_439, e149_440, e149_442, e149_444, e149_447, e149_448, e149_451, e149_452, e149_453, e149_455, e149_458, e149_459, e149_462, e149_463, e149_464, e149_466, e149_469, e149_470, e149_472, e149_474, e149_477, e149_478, e149_480, e149_481, e149_482, e149_485, e149_486, e149_489, e149_490, e149_491, e149_493, e149_496, e149_497, e149_499, e149_501, e149_504, e149_506, e149_509, e149_510, e149_511, e149_513, e149_516, e149_518, e149_521, e149_522, e149_523, e149_525, e149_528, e149_530, e149_532, e149_533, e149_534, e149_535, e149_536, e149_537, e149_538, e149_541, e149_542, e149_545, e149_547, e149_549, e149_550, e149_551, e149_552, e149_553, e149_554, e149_557, e149_558, e149_559, e149_562, e149_565, e149_568, e149_569, e149_572, e149_573, t120_4, l4', r1, r902, z3, z4, w, wn, eq_true hb, t126_0 H1 hi, e0, t126_14 H1 hi, e13, t126_7 H1 hi, y5, y6, t125_6 H1, t125_7 H1, cnt_sides H1, ec, i1_0, t126_7 H1 hp, f2, t126_11 H1 hi, f3, v, t136_m H1 hi (Or.inr b1), eq_self, aft_v, aft_n, Option.bind_some, rf_some, ck_i, ck_r, ck_n, nb0, nb1, nbi, Nat.reduceAdd, if_true, if_false, not_false_eq_true, not_true_eq_false]
      · obtain ⟨f1, f2, f3, f4, f5⟩ := en w
        rw [if_neg w] at r1
        have wn : α (7 + p) 7 - (α (7 + i) 7 + 2) / 3 ≤ 0 := by rw [le_not]; exact w
        obtain ⟨x1, x2, x3, x4⟩ := crew_2 (a := α (7 + i) 7) ⟨y3, y4⟩ ca.2
        rw [← f1] at x1 x2 x4
        rw [← f2] at x3 x4
        refine ⟨z, α1, π1, k1, ?_, Zk_le (Zk_r z) (by omega), G1⟩
        simp only [↓reduceIte, e149_194, e149_195, e149_196, e149_199, e149_253, e149_254, e149_255, e149_258, e149_260, e149_262, e149_265, e149_268, e149_270, e149_271, e149_274, e149_275, e149_276, e149_278, e149_281, e149_283, e149_286, e149_287, e149_290, e149_291, e149_292, e149_294, e149_296, e149_297, e149_298, e149_299, e149_300, e149_301, e149_303, e149_305, e149_308, e149_309, e149_312, e149_313, e149_315, e149_317, e149_320, e149_322, e149_324, e149_327, e149_328, e149_331, e149_332, e149_335, e149_336, e149_337, e149_338, e149_341, e149_343, e149_346, e149_347, e149_348, e149_350, e149_353, e149_354, e149_357, e149_358, e149_359, e149_361, e149_364, e149_366, e149_369, e149_370, e149_372, e149_375, e149_376, e149_378, e149_381, e149_382, e149_384, e149_387, e149_388, e149_391, e149_392, e149_394, e149_396, e149_399, e149_401, e149_404, e149_405, e149_407, e149_408, e149_411, e149_413, e149_416, e149_417, e149_418, e149_420, e149_423, e149_424, e149_427, e149_428, e149_430, e149_432, e149_435, e149_436, e149_439, e149_440, e149_442, e149_444, e149_447, e149_448, e149_451, e149_452, e149_453, e149_455, e149_458, e149_459, e149_462, e149_463, e149_464, e149_466, e149_469, e149_470, e149_472, e149_474, e149_477, e149_478, e149_480, e149_481, e149_482, e149_485, e149_486, e149_489, e149_490, e149_491, e149_493, e149_496, e149_497, e149_499, e149_501, e149_504, e149_506, e149_509, e149_510, e149_511, e149_513, e149_516, e149_518, e149_521, e149_522, e149_523, e149_525, e149_528, e149_530, e149_532, e149_533, e149_534, e149_535, e149_536, e149_537, e149_538, e149_541, e149_542, e149_545, e149_547, e149_549, e149_550, e149_551, e149_552, e149_553, e149_554, e149_557, e149_558, e149_559, e149_562, e149_565, e149_568, e149_569, e149_572, e149_573, t120_4, l4', r1, r902', z3, z4, w, wn, eq_true hb, t126_0 H1 hi, e0, t126_14 H1 hi, e13, t126_7 H1 hi, t125_6 H1, t125_7 H1, cnt_sides H1, ec, i1_0, t126_0 H1 hp, f3, t126_7 H1 hp, t126_11 H1 hi, f4, t126_11 H1 hp, f5, x1, x2, x3, x4, eq_self, aft_v, aft_n, Option.bind_some, rf_some, ck_i, ck_r, ck_n, nb0, nb1, nbi, Nat.reduceAdd, if_true, if_false, not_false_eq_true, not_true_eq_false]
    · have b1 : α (7 + i) 13 = 1 := (H.bo i hi).resolve_left hb
      refine ⟨zb z, α, π, k, ?_, Zk_le (Zk_b (Zk_r z)) (by omega), G⟩
      simp only [↓reduceIte, e149_194, e149_195, e149_196, e149_199, e149_253, e149_254, e149_255, e149_258, e149_260, e149_262, e149_265, e149_268, e149_270, e149_271, e149_274, e149_275, e149_276, e149_278, e149_281, e149_283, e149_286, e149_287, e149_290, e149_291, t120_4, l4', t136_m H hi (Or.inr hb), eq_true b1, t126_7 H hi, eq_self, aft_v, aft_n, Option.bind_some, rf_some, ck_i, ck_r, ck_n, nb0, nb1, nbi, Nat.reduceAdd, if_true, if_false, not_false_eq_true, not_true_eq_false]
theorem t149 (G : Gs α π n k) {i j : Nat} (hi : i < n) (hj : j < n) (x : Int32) : ∃ z' α' π' k', Run 149 0 [some (.ref (3)), some (.int (J i)), some (.int (J j)), some (.int (x)), none, none, none, none, none, none, none, none, none, none] [] (HC z α π β η o od) = some (.inl (some (.int 1)), HC z' α' π' β η o od) ∧ Zk z z' 3 ∧ Gs α' π' n k' := by
  rcases G.ok.part i hi with e | ⟨p, p1, p2, p3⟩
  · exact t149_a G hi hj x e
  · exact t149_b G hi p1 p2 x p3
end S95
