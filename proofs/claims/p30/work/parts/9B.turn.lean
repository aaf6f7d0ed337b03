/-! one turn of the law -/
theorem l12t (t : Nat) : (1 : Int32) + 2 * J t = J (1 + 2 * t) ∧ (2 : Int32) + 2 * J t = J (2 + 2 * t) := by
  rw [show (1 : Int32) = J 1 from rfl, show (2 : Int32) = J 2 from rfl]
  simp only [J_add, J_mul, and_self]
theorem z8 : ¬ (8 : Int32) = 0 := by decide
theorem j0 : J 0 = (0 : Int32) := rfl
theorem l902 : (-902 : Int32) < 0 := by decide
section S9B
variable {z : Zr} {α β γ : Mem} {π : Nat → Nat} {η : Int64} {o : Nat → Int64} {od : Nat → UInt64} {n k t : Nat}
theorem t152_a (H : Ok α n) (hL : z.2.2.1 ≤ 260) (ht : t < 64) (w : Int32) (u4 u5 u6 u7 u8 u9 u10 u11 u12 u13 : Option Value) : ∃ v4 v5 h kk tt c, h < 16 ∧ c < szN α ∧ (0 < n → kk < n ∧ tt < n) ∧ Run 152 81 [some (.ref (0)), some (.ref (3)), some (.int (w)), some (.int (J t)), u4, u5, u6, u7, u8, u9, u10, u11, u12, u13] [] (HC z α π β η o od) = Run 152 193 [some (.ref (0)), some (.ref (3)), some (.int (w)), some (.int (J t)), some (.int (v4)), some (.int (v5)), some (.int (J n)), some (.int (J h)), some (.int (J kk)), some (.int (J tt)), some (.int (J c)), u11, u12, u13] [] (HC z α π β η o od) := by
  have h8 := H.n8
  have hs := H.sz
  have hw := H.wh
  have h0 : 0 < szN α := by
    have h1 : (α 4 0 * α 4 1).toInt = szN α := by rw [hs.1]; exact J_ti (by omega)
    omega
  have l0 : ¬ (64 : Int32) ≤ J t := by rw [show (64 : Int32) = J 64 from rfl, J_le (by omega) (by omega)]; omega
  have q1 := t119 (z := z) (α := α) (π := π) (β := β) (η := η) (o := o) (od := od) hL (show 1 + 2 * t < 1000 by omega)
  have q2 := t119 (z := z) (α := α) (π := π) (β := β) (η := η) (o := o) (od := od) hL (show 2 + 2 * t < 1000 by omega)
  have l1 := (l12t t).1
  have l2 := (l12t t).2
  generalize lotV z (1 + 2 * t) = v4 at q1
  generalize lotV z (2 + 2 * t) = v5 at q2
  have q5 := t120 (z := z) (α := α) (π := π) (β := β) (η := η) (o := o) (od := od) v5 h0 (by omega)
  have b5 := lowN_lt v5 h0
  have b16 := lowN_lt v4 (m := 16) (by decide)
  rcases Nat.eq_zero_or_pos n with n0 | n0
  · have jn : J n = 0 := by rw [n0]; rfl
    by_cases t5 : t < 5
    · have l5 : ¬ (5 : Int32) ≤ J t := by rw [show (5 : Int32) = J 5 from rfl, J_le (by omega) (by omega)]; omega
      refine ⟨v4, v5, 0, 0, 0, lowN v5 (szN α), by omega, b5, fun w => by omega, ?_⟩
      simp only [↓reduceIte, e152_81, e152_82, e152_84, e152_87, e152_88, e152_89, e152_90, e152_91, e152_92, e152_93, e152_96, e152_98, e152_99, e152_100, e152_101, e152_102, e152_103, e152_104, e152_107, e152_109, e152_110, e152_111, e152_114, e152_116, e152_117, e152_118, e152_121, e152_122, e152_125, e152_127, e152_129, e152_132, e152_134, e152_136, e152_139, e152_140, e152_143, e152_145, e152_146, e152_147, e152_149, e152_152, e152_154, e152_156, e152_159, e152_160, e152_163, e152_165, e152_167, e152_168, e152_170, e152_173, e152_175, e152_177, e152_178, e152_179, e152_182, e152_183, e152_184, e152_187, e152_188, e152_191, l0, l1, q1, l2, q2, t125_5 H, H.hn, l5, eq_true jn, t125_0 H, t125_1 H, hs.1, q5, j0, aft_v, aft_n, Option.bind_some, rf_some, ck_i, ck_r, ck_n, nb0, nb1, nbi, Nat.reduceAdd, if_true, if_false, not_false_eq_true, not_true_eq_false]
    · have l5 : (5 : Int32) ≤ J t := by rw [show (5 : Int32) = J 5 from rfl, J_le (by omega) (by omega)]; omega
      refine ⟨v4, v5, lowN v4 16, 0, 0, lowN v5 (szN α), b16, b5, fun w => by omega, ?_⟩
      simp only [↓reduceIte, e152_81, e152_82, e152_84, e152_87, e152_88, e152_89, e152_90, e152_91, e152_92, e152_93, e152_96, e152_98, e152_99, e152_100, e152_101, e152_102, e152_103, e152_104, e152_107, e152_109, e152_110, e152_111, e152_114, e152_116, e152_117, e152_118, e152_121, e152_122, e152_125, e152_127, e152_129, e152_132, e152_134, e152_136, e152_139, e152_140, e152_143, e152_145, e152_146, e152_147, e152_149, e152_152, e152_154, e152_156, e152_159, e152_160, e152_163, e152_165, e152_167, e152_168, e152_170, e152_173, e152_175, e152_177, e152_178, e152_179, e152_182, e152_183, e152_184, e152_187, e152_188, e152_191, l0, l1, q1, l2, q2, t125_5 H, H.hn, l5, t120_16, eq_true jn, t125_0 H, t125_1 H, hs.1, q5, j0, aft_v, aft_n, Option.bind_some, rf_some, ck_i, ck_r, ck_n, nb0, nb1, nbi, Nat.reduceAdd, if_true, if_false, not_false_eq_true, not_true_eq_false]
  · have jn : ¬ J n = 0 := by rw [i32_eq, J_ti (by omega), ti0]; omega
    have q6 := t120 (z := z) (α := α) (π := π) (β := β) (η := η) (o := o) (od := od) (v4 >>> (5 &&& 31)) n0 (by omega)
    have q7 := t120 (z := z) (α := α) (π := π) (β := β) (η := η) (o := o) (od := od) (v4 >>> (9 &&& 31)) n0 (by omega)
    have b6 := lowN_lt (v4 >>> (5 &&& 31)) n0
    have b7 := lowN_lt (v4 >>> (9 &&& 31)) n0
    by_cases t5 : t < 5
    · have l5 : ¬ (5 : Int32) ≤ J t := by rw [show (5 : Int32) = J 5 from rfl, J_le (by omega) (by omega)]; omega
      refine ⟨v4, v5, 0, lowN (v4 >>> (5 &&& 31)) n, lowN (v4 >>> (9 &&& 31)) n, lowN v5 (szN α), by omega, b5, fun w => ⟨b6, b7⟩, ?_⟩
      simp only [↓reduceIte, e152_81, e152_82, e152_84, e152_87, e152_88, e152_89, e152_90, e152_91, e152_92, e152_93, e152_96, e152_98, e152_99, e152_100, e152_101, e152_102, e152_103, e152_104, e152_107, e152_109, e152_110, e152_111, e152_114, e152_116, e152_117, e152_118, e152_121, e152_122, e152_125, e152_127, e152_129, e152_132, e152_134, e152_136, e152_139, e152_140, e152_143, e152_145, e152_146, e152_147, e152_149, e152_152, e152_154, e152_156, e152_159, e152_160, e152_163, e152_165, e152_167, e152_168, e152_170, e152_173, e152_175, e152_177, e152_178, e152_179, e152_182, e152_183, e152_184, e152_187, e152_188, e152_191, l0, l1, q1, l2, q2, t125_5 H, H.hn, l5, eq_false jn, q6, q7, t125_0 H, t125_1 H, hs.1, q5, j0, aft_v, aft_n, Option.bind_some, rf_some, ck_i, ck_r, ck_n, nb0, nb1, nbi, Nat.reduceAdd, if_true, if_false, not_false_eq_true, not_true_eq_false]
    · have l5 : (5 : Int32) ≤ J t := by rw [show (5 : Int32) = J 5 from rfl, J_le (by omega) (by omega)]; omega
      refine ⟨v4, v5, lowN v4 16, lowN (v4 >>> (5 &&& 31)) n, lowN (v4 >>> (9 &&& 31)) n, lowN v5 (szN α), b16, b5, fun w => ⟨b6, b7⟩, ?_⟩
      simp only [↓reduceIte, e152_81, e152_82, e152_84, e152_87, e152_88, e152_89, e152_90, e152_91, e152_92, e152_93, e152_96, e152_98, e152_99, e152_100, e152_101, e152_102, e152_103, e152_104, e152_107, e152_109, e152_110, e152_111, e152_114, e152_116, e152_117, e152_118, e152_121, e152_122, e152_125, e152_127, e152_129, e152_132, e152_134, e152_136, e152_139, e152_140, e152_143, e152_145, e152_146, e152_147, e152_149, e152_152, e152_154, e152_156, e152_159, e152_160, e152_163, e152_165, e152_167, e152_168, e152_170, e152_173, e152_175, e152_177, e152_178, e152_179, e152_182, e152_183, e152_184, e152_187, e152_188, e152_191, l0, l1, q1, l2, q2, t125_5 H, H.hn, l5, t120_16, eq_false jn, q6, q7, t125_0 H, t125_1 H, hs.1, q5, j0, aft_v, aft_n, Option.bind_some, rf_some, ck_i, ck_r, ck_n, nb0, nb1, nbi, Nat.reduceAdd, if_true, if_false, not_false_eq_true, not_true_eq_false]
/-- what one of the calls of a turn leaves -/
def Mid (z : Zr) (α : Mem) (π : Nat → Nat) (β : Mem) (η : Int64) (o : Nat → Int64) (od : Nat → UInt64) (w v4 v5 v6 v7 v8 v9 v10 x3 : Int32) (u11 u12 u13 : Option Value) : Prop := ∃ z' α' π' n' k' a11 a12 a13, Run 152 193 [some (.ref (0)), some (.ref (3)), some (.int (w)), some (.int (x3)), some (.int (v4)), some (.int (v5)), some (.int (v6)), some (.int (v7)), some (.int (v8)), some (.int (v9)), some (.int (v10)), u11, u12, u13] [] (HC z α π β η o od) = Run 152 649 [some (.ref 0), some (.ref 3), some (.int w), some (.int x3), some (.int v4), some (.int v5), some (.int v6), some (.int v7), some (.int v8), some (.int v9), some (.int v10), a11, a12, a13] [] (HC z' α' π' β η o od) ∧ Zk z z' 3 ∧ Gs α' π' n' k'
theorem t152_0 (G : Gs α π n k) {c : Nat} (hc : c < szN α) (w v4 v5 v8 v9 x3 : Int32) (u11 u12 u13 : Option Value) : Mid z α π β η o od w v4 v5 (J n) 0 v8 v9 (J c) x3 u11 u12 u13 := by
  have H := G.ok
  have h8 := H.n8
  have cell := rock_lt H hc
  have b1 := lowN_lt (v5 >>> (8 &&& 31)) (m := 2) (by decide)
  have b2 := lowN_lt (v5 >>> (9 &&& 31)) (m := 6) (by decide)
  have b3 := lowN_lt (v5 >>> (12 &&& 31)) (m := 30) (by decide)
  have b4 := lowN_lt (v5 >>> (17 &&& 31)) (m := 13) (by decide)
  have b5 := lowN_lt (v5 >>> (20 &&& 31)) (m := 50) (by decide)
  by_cases q : n < 8 ∧ freeC α n (J c)
  · obtain ⟨α', π', k', r1, G', f0, f1, f3, f4, f5, f6, f12⟩ := t124 (z := z) (β := β) (η := η) (o := o) (od := od) G q.1 q.2 b1 b2 b3 b4 b5
    have H' := G'.ok
    have hn' : n < n + 1 := by omega
    have th : thingC α n (J c) = -1 := by rw [thing_free h8 cell]; exact q.2
    have n8 : ¬ J n = 8 := by rw [show (8 : Int32) = J 8 from rfl, J_eq (by omega) (by omega)]; omega
    have nn := Jnn (show n < 2147483648 by omega)
    refine ⟨z, α', π', n + 1, k', some (.int (-1)), some (.int (J (lowN (v5 >>> (8 &&& 31)) 2))), some (.int (J n)), ?_, Zk_le (Zk_r z) (by omega), G'⟩
    simp only [↓reduceIte, e152_193, e152_195, e152_198, e152_199, e152_201, e152_204, e152_206, e152_208, e152_210, e152_211, e152_212, e152_215, e152_217, e152_218, e152_220, e152_222, e152_223, e152_225, e152_227, e152_228, e152_230, e152_233, e152_234, e152_235, e152_237, e152_238, e152_240, e152_242, e152_243, e152_245, e152_248, e152_249, e152_250, e152_251, e152_254, e152_256, e152_258, e152_259, e152_261, e152_264, e152_265, e152_266, e152_269, e152_270, e152_272, e152_274, e152_275, e152_277, e152_280, e152_281, e152_282, e152_283, e152_286, e152_288, e152_290, e152_292, e152_294, e152_297, e152_299, e152_300, e152_303, e152_306, e152_309, e152_311, e152_314, e152_316, e152_319, e152_320, e152_322, e152_323, e152_326, e152_328, e152_331, e152_332, e152_334, e152_335, e152_338, e152_340, e152_343, e152_344, e152_346, e152_347, e152_350, e152_352, e152_355, e152_356, e152_358, e152_359, e152_362, e152_363, e152_365, e152_367, e152_370, e152_373, e152_374, e152_376, e152_378, e152_381, e152_382, e152_385, e152_386, e152_387, t127 H cell, th, t120_2, t120_6, t120_30, t120_13, t120_50, its_J, r1, n8, nn, t126_0 H' hn', f0, t126_1a H' hn' f3, f1, t126_4 H' hn', f4, t126_5 H' hn', f5, t126_6 H' hn', f6, t126_11 H' hn', f12, eq_self, aft_v, aft_n, Option.bind_some, rf_some, ck_i, ck_r, ck_n, nb0, nb1, nbi, Nat.reduceAdd, if_true, if_false, not_false_eq_true, not_true_eq_false]
  · have r1 := t124_m (z := z) (π := π) (β := β) (η := η) (o := o) (od := od) H cell q b1 b2 b3 b4 b5
    by_cases n8 : n = 8
    · have j8 : J n = 8 := by rw [n8]; rfl
      refine ⟨zb z, α, π, n, k, some (.int (thingC α n (J c))), some (.int (J (lowN (v5 >>> (8 &&& 31)) 2))), some (.int (-902)), ?_, Zk_le (Zk_b (Zk_r z)) (by omega), G⟩
      simp only [↓reduceIte, e152_193, e152_195, e152_198, e152_199, e152_201, e152_204, e152_206, e152_208, e152_210, e152_211, e152_212, e152_215, e152_217, e152_218, e152_220, e152_222, e152_223, e152_225, e152_227, e152_228, e152_230, e152_233, e152_234, e152_235, e152_237, e152_238, e152_240, e152_242, e152_243, e152_245, e152_248, e152_249, e152_250, e152_251, e152_254, e152_256, e152_258, e152_259, e152_261, e152_264, e152_265, e152_266, e152_269, e152_270, e152_272, e152_274, e152_275, e152_277, e152_280, e152_281, e152_282, e152_283, e152_286, e152_288, e152_290, e152_292, e152_294, e152_297, e152_299, e152_300, e152_303, e152_306, e152_309, e152_311, e152_314, e152_316, e152_319, e152_320, e152_322, e152_323, e152_326, e152_328, e152_331, e152_332, e152_334, e152_335, e152_338, e152_340, e152_343, e152_344, e152_346, e152_347, e152_350, e152_352, e152_355, e152_356, e152_358, e152_359, e152_362, e152_363, e152_365, e152_367, e152_370, e152_373, e152_374, e152_376, e152_378, e152_381, e152_382, e152_385, e152_386, e152_387, t127 H cell, t120_2, t120_6, t120_30, t120_13, t120_50, its_J, r1, eq_true j8, l902, eq_self, aft_v, aft_n, Option.bind_some, rf_some, ck_i, ck_r, ck_n, nb0, nb1, nbi, Nat.reduceAdd, if_true, if_false, not_false_eq_true, not_true_eq_false]
    · have n8' : ¬ J n = 8 := by rw [show (8 : Int32) = J 8 from rfl, J_eq (by omega) (by omega)]; exact n8
      have th : ¬ thingC α n (J c) = -1 := fun w => q ⟨by omega, by rw [thing_free h8 cell] at w; exact w⟩
      refine ⟨zb z, α, π, n, k, some (.int (thingC α n (J c))), some (.int (J (lowN (v5 >>> (8 &&& 31)) 2))), some (.int (-902)), ?_, Zk_le (Zk_b (Zk_r z)) (by omega), G⟩
      simp only [↓reduceIte, e152_193, e152_195, e152_198, e152_199, e152_201, e152_204, e152_206, e152_208, e152_210, e152_211, e152_212, e152_215, e152_217, e152_218, e152_220, e152_222, e152_223, e152_225, e152_227, e152_228, e152_230, e152_233, e152_234, e152_235, e152_237, e152_238, e152_240, e152_242, e152_243, e152_245, e152_248, e152_249, e152_250, e152_251, e152_254, e152_256, e152_258, e152_259, e152_261, e152_264, e152_265, e152_266, e152_269, e152_270, e152_272, e152_274, e152_275, e152_277, e152_280, e152_281, e152_282, e152_283, e152_286, e152_288, e152_290, e152_292, e152_294, e152_297, e152_299, e152_300, e152_303, e152_306, e152_309, e152_311, e152_314, e152_316, e152_319, e152_320, e152_322, e152_323, e152_326, e152_328, e152_331, e152_332, e152_334, e152_335, e152_338, e152_340, e152_343, e152_344, e152_346, e152_347, e152_350, e152_352, e152_355, e152_356, e152_358, e152_359, e152_362, e152_363, e152_365, e152_367, e152_370, e152_373, e152_374, e152_376, e152_378, e152_381, e152_382, e152_385, e152_386, e152_387, t127 H cell, t120_2, t120_6, t120_30, t120_13, t120_50, its_J, r1, n8', th, l902, eq_self, aft_v, aft_n, Option.bind_some, rf_some, ck_i, ck_r, ck_n, nb0, nb1, nbi, Nat.reduceAdd, if_true, if_false, not_false_eq_true, not_true_eq_false]
theorem t152_1 (G : Gs α π n k) {c : Nat} (hc : c < szN α) (w v4 v5 v8 v9 x3 : Int32) (u11 u12 u13 : Option Value) : Mid z α π β η o od w v4 v5 (J n) 1 v8 v9 (J c) x3 u11 u12 u13 := by
  have H := G.ok
  have h8 := H.n8
  have cell := rock_lt H hc
  have jb : (lowN (v5 >>> (8 &&& 31)) 3 = 0 ∧ J (lowN (v5 >>> (8 &&& 31)) 3) = 0) ∨ ¬ J (lowN (v5 >>> (8 &&& 31)) 3) = 0 := by
    by_cases q : lowN (v5 >>> (8 &&& 31)) 3 = 0
    · exact Or.inl ⟨q, by rw [q]; rfl⟩
    · right; rw [i32_eq, J_ti (by have := lowN_lt (v5 >>> (8 &&& 31)) (m := 3) (by decide); omega), ti0]; omega
  have after : ∀ {α' : Mem} {π' : Nat → Nat} {k' : Nat} {b : Int32}, Gs α' π' n k' → α' 4 = α 4 → α' 5 (J c).toNatClampNeg = b → (∀ q, q < 8 → α' (7 + q) = α (7 + q)) → shipOnF α (J c) n 0 = -1 → isCellC α' 4 (J c) ∧ (b = 1 → thingC α' n (J c) = -2) ∧ (b = 0 → thingC α' n (J c) = -1) := fun {α' π' k' b} G' e4 e5 e7 hs => by
    have cell' : isCellC α' 4 (J c) := by unfold isCellC; rw [e4]; exact cell
    have so : shipOnF α' (J c) n 0 = -1 := by
      rw [← hs]
      exact sm_shipOn n 0 (fun j _ hj => by rw [e7 j (by omega)]; exact ⟨rfl, rfl⟩)
    refine ⟨cell', fun hb => ?_, fun hb => ?_⟩
    · unfold thingC; rw [if_pos ⟨cell', by rw [e5, hb]; decide⟩]
    · unfold thingC; rw [if_neg (fun w => w.2 (by rw [e5, hb]))]; exact so
  rcases thing3 G.1 (J c) with ⟨r, e, s⟩ | ⟨r, e, s⟩ | ⟨r, q, hq, e, s, ha, hcl⟩
  · have hr : bi (rockC α (J c)) = 1 := bi_t r
    have x1 : (-2 : Int32) < 0 := by decide
    have x2 : ¬ (1 : Int32) < 0 := by decide
    rcases jb with ⟨jb1, jb2⟩ | jb
    · obtain ⟨α', π', k', r1, D, e4, e5, e7⟩ := t122 (z := z) (β := β) (η := η) (o := o) (od := od) G cell s (b := 1) (Or.inr rfl)
      obtain ⟨a1, a2, -⟩ := after D.g e4 e5 e7 s
      rw [hr] at r1
      refine ⟨z, α', π', n, k', some (.int (-2)), some (.int (1)), some (.int (1)), ?_, Zk_le (Zk_r z) (by omega), D.g⟩
      simp only [↓reduceIte, e152_193, e152_195, e152_198, e152_199, e152_201, e152_204, e152_390, e152_392, e152_393, e152_396, e152_397, e152_399, e152_402, e152_404, e152_406, e152_408, e152_409, e152_410, e152_413, e152_416, e152_417, e152_420, e152_421, e152_423, e152_424, e152_426, e152_428, e152_431, e152_433, e152_435, e152_437, e152_440, e152_443, e152_446, e152_448, e152_450, e152_453, e152_454, e152_457, e152_458, e152_461, e152_463, e152_466, e152_467, e152_469, e152_472, e152_474, e152_477, e152_479, e152_482, e152_483, e152_486, e152_487, e152_488, t127 H cell, e, t120_3, eq_true jb2, r1, x1, x2, i1_0, t127 D.g.ok a1, a2 rfl, eq_self, aft_v, aft_n, Option.bind_some, rf_some, ck_i, ck_r, ck_n, nb0, nb1, nbi, Nat.reduceAdd, if_true, if_false, not_false_eq_true, not_true_eq_false]
    · obtain ⟨α', π', k', r1, D, e4, e5, e7⟩ := t122 (z := z) (β := β) (η := η) (o := o) (od := od) G cell s (b := 0) (Or.inl rfl)
      obtain ⟨a1, -, a3⟩ := after D.g e4 e5 e7 s
      rw [hr] at r1
      refine ⟨z, α', π', n, k', some (.int (-2)), some (.int (0)), some (.int (1)), ?_, Zk_le (Zk_r z) (by omega), D.g⟩
      simp only [↓reduceIte, e152_193, e152_195, e152_198, e152_199, e152_201, e152_204, e152_390, e152_392, e152_393, e152_396, e152_397, e152_399, e152_402, e152_404, e152_406, e152_408, e152_409, e152_410, e152_413, e152_416, e152_417, e152_420, e152_421, e152_423, e152_424, e152_426, e152_428, e152_431, e152_433, e152_435, e152_437, e152_440, e152_443, e152_446, e152_448, e152_450, e152_453, e152_454, e152_457, e152_458, e152_461, e152_463, e152_466, e152_467, e152_469, e152_472, e152_474, e152_477, e152_479, e152_482, e152_483, e152_486, e152_487, e152_488, t127 H cell, e, t120_3, eq_false jb, r1, x1, x2, i1_0, t127 D.g.ok a1, a3 rfl, eq_self, aft_v, aft_n, Option.bind_some, rf_some, ck_i, ck_r, ck_n, nb0, nb1, nbi, Nat.reduceAdd, if_true, if_false, not_false_eq_true, not_true_eq_false]
  · have hr : bi (rockC α (J c)) = 0 := bi_f r
    have x1 : (-1 : Int32) < 0 := by decide
    have x3' : ¬ (-1 : Int32) = -2 := by decide
    rcases jb with ⟨jb1, jb2⟩ | jb
    · obtain ⟨α', π', k', r1, D, e4, e5, e7⟩ := t122 (z := z) (β := β) (η := η) (o := o) (od := od) G cell s (b := 1) (Or.inr rfl)
      obtain ⟨a1, a2, -⟩ := after D.g e4 e5 e7 s
      rw [hr] at r1
      refine ⟨z, α', π', n, k', some (.int (-1)), some (.int (1)), some (.int (0)), ?_, Zk_le (Zk_r z) (by omega), D.g⟩
      simp only [↓reduceIte, e152_193, e152_195, e152_198, e152_199, e152_201, e152_204, e152_390, e152_392, e152_393, e152_396, e152_397, e152_399, e152_402, e152_404, e152_406, e152_408, e152_409, e152_410, e152_413, e152_416, e152_417, e152_420, e152_421, e152_423, e152_424, e152_426, e152_428, e152_431, e152_433, e152_435, e152_437, e152_440, e152_443, e152_446, e152_448, e152_450, e152_453, e152_454, e152_457, e152_458, e152_461, e152_463, e152_466, e152_467, e152_469, e152_472, e152_474, e152_477, e152_479, e152_482, e152_483, e152_486, e152_487, e152_488, t127 H cell, e, t120_3, eq_true jb2, r1, x1, x3', l00_, i1_0, t127 D.g.ok a1, a2 rfl, eq_self, aft_v, aft_n, Option.bind_some, rf_some, ck_i, ck_r, ck_n, nb0, nb1, nbi, Nat.reduceAdd, if_true, if_false, not_false_eq_true, not_true_eq_false]
    · obtain ⟨α', π', k', r1, D, e4, e5, e7⟩ := t122 (z := z) (β := β) (η := η) (o := o) (od := od) G cell s (b := 0) (Or.inl rfl)
      obtain ⟨a1, -, a3⟩ := after D.g e4 e5 e7 s
      rw [hr] at r1
      refine ⟨z, α', π', n, k', some (.int (-1)), some (.int (0)), some (.int (0)), ?_, Zk_le (Zk_r z) (by omega), D.g⟩
      simp only [↓reduceIte, e152_193, e152_195, e152_198, e152_199, e152_201, e152_204, e152_390, e152_392, e152_393, e152_396, e152_397, e152_399, e152_402, e152_404, e152_406, e152_408, e152_409, e152_410, e152_413, e152_416, e152_417, e152_420, e152_421, e152_423, e152_424, e152_426, e152_428, e152_431, e152_433, e152_435, e152_437, e152_440, e152_443, e152_446, e152_448, e152_450, e152_453, e152_454, e152_457, e152_458, e152_461, e152_463, e152_466, e152_467, e152_469, e152_472, e152_474, e152_477, e152_479, e152_482, e152_483, e152_486, e152_487, e152_488, t127 H cell, e, t120_3, eq_false jb, r1, x1, x3', l00_, i1_0, t127 D.g.ok a1, a3 rfl, eq_self, aft_v, aft_n, Option.bind_some, rf_some, ck_i, ck_r, ck_n, nb0, nb1, nbi, Nat.reduceAdd, if_true, if_false, not_false_eq_true, not_true_eq_false]
  · have x1 := Jnn (show q < 2147483648 by omega)
    have hne : ¬ shipOnF α (J c) n 0 = -1 := by rw [s]; exact Jm1 (by omega)
    rcases jb with ⟨jb1, jb2⟩ | jb
    · refine ⟨zb z, α, π, n, k, some (.int (J q)), some (.int (1)), some (.int (-902)), ?_, Zk_le (Zk_b (Zk_r z)) (by omega), G⟩
      simp only [↓reduceIte, e152_193, e152_195, e152_198, e152_199, e152_201, e152_204, e152_390, e152_392, e152_393, e152_396, e152_397, e152_399, e152_402, e152_404, e152_406, e152_408, e152_409, e152_410, e152_413, e152_416, e152_417, e152_420, e152_421, e152_423, e152_424, e152_426, e152_428, e152_431, e152_433, e152_435, e152_437, e152_440, e152_443, e152_446, e152_448, e152_450, e152_453, e152_454, e152_457, e152_458, e152_461, e152_463, e152_466, e152_467, e152_469, e152_472, e152_474, e152_477, e152_479, e152_482, e152_483, e152_486, e152_487, e152_488, t127 H cell, e, t120_3, eq_true jb2, t122_m H cell hne, x1, l902, i1_0, eq_self, aft_v, aft_n, Option.bind_some, rf_some, ck_i, ck_r, ck_n, nb0, nb1, nbi, Nat.reduceAdd, if_true, if_false, not_false_eq_true, not_true_eq_false]
    · refine ⟨zb z, α, π, n, k, some (.int (J q)), some (.int (0)), some (.int (-902)), ?_, Zk_le (Zk_b (Zk_r z)) (by omega), G⟩
      simp only [↓reduceIte, e152_193, e152_195, e152_198, e152_199, e152_201, e152_204, e152_390, e152_392, e152_393, e152_396, e152_397, e152_399, e152_402, e152_404, e152_406, e152_408, e152_409, e152_410, e152_413, e152_416, e152_417, e152_420, e152_421, e152_423, e152_424, e152_426, e152_428, e152_431, e152_433, e152_435, e152_437, e152_440, e152_443, e152_446, e152_448, e152_450, e152_453, e152_454, e152_457, e152_458, e152_461, e152_463, e152_466, e152_467, e152_469, e152_472, e152_474, e152_477, e152_479, e152_482, e152_483, e152_486, e152_487, e152_488, t127 H cell, e, t120_3, eq_false jb, t122_m H cell hne, x1, l902, i1_0, eq_self, aft_v, aft_n, Option.bind_some, rf_some, ck_i, ck_r, ck_n, nb0, nb1, nbi, Nat.reduceAdd, if_true, if_false, not_false_eq_true, not_true_eq_false]
theorem t152_2 (G : Gs α π n k) {c : Nat} (w v4 v5 v8 v9 x3 : Int32) (u11 u12 u13 : Option Value) : Mid z α π β η o od w v4 v5 (J n) 2 v8 v9 (J c) x3 u11 u12 u13 := by
  have H := G.ok
  obtain ⟨α', π', k', r1, D, e4, -, -⟩ := t123 (z := z) (β := β) (η := η) (o := o) (od := od) G (lowN_lt v5 (m := 6) (by decide)) (lowN_lt (v5 >>> (3 &&& 31)) (m := 4) (by decide))
  have H' := D.g.ok
  have a2 : α' 4 2 = J (lowN v5 6) := e4 2
  have a3 : α' 4 3 = J (lowN (v5 >>> (3 &&& 31)) 4) := e4 3
  refine ⟨z, α', π', n, k', some (.int (α 4 2)), some (.int (J (lowN v5 6))), some (.int (J (lowN (v5 >>> (3 &&& 31)) 4))), ?_, Zk_le (Zk_r z) (by omega), D.g⟩
  simp only [↓reduceIte, e152_193, e152_195, e152_198, e152_199, e152_390, e152_392, e152_393, e152_491, e152_493, e152_494, e152_497, e152_498, e152_499, e152_502, e152_504, e152_506, e152_508, e152_511, e152_513, e152_515, e152_516, e152_517, e152_518, e152_521, e152_523, e152_524, e152_526, e152_528, e152_531, e152_533, e152_536, e152_537, e152_538, e152_541, e152_543, e152_546, e152_547, e152_548, e152_551, e152_553, e152_556, e152_557, e152_558, t125_2 H, t120_6, t120_4, r1, t125_2 H', a2, t125_3 H', a3, zz2, z21, eq_self, aft_v, aft_n, Option.bind_some, rf_some, ck_i, ck_r, ck_n, nb0, nb1, nbi, Nat.reduceAdd, if_true, if_false, not_false_eq_true, not_true_eq_false]
theorem t152_3 (G : Gs α π n k) {c h kk tt : Nat} (h3 : 3 ≤ h) (h16 : h < 16) (hk : 0 < n → kk < n ∧ tt < n) (w v4 v5 x3 : Int32) (u11 u12 u13 : Option Value) : Mid z α π β η o od w v4 v5 (J n) (J h) (J kk) (J tt) (J c) x3 u11 u12 u13 := by
  have H := G.ok
  have h8 := H.n8
  have n0 : ¬ J h = 0 := by rw [i32_eq, J_ti (by omega), ti0]; omega
  have n1 : ¬ J h = 1 := by rw [i32_eq, J_ti (by omega), ti1]; omega
  have n2 : ¬ J h = 2 := by rw [i32_eq, J_ti (by omega), ti2]; omega
  rcases Nat.eq_zero_or_pos n with z0 | z0
  · have jn : J n ≤ 0 := by rw [z0]; decide
    refine ⟨z, α, π, n, k, u11, u12, u13, ?_, Zk_le (Zk_r z) (by omega), G⟩
    simp only [↓reduceIte, e152_193, e152_195, e152_198, e152_199, e152_390, e152_392, e152_393, e152_491, e152_493, e152_494, e152_497, e152_498, e152_499, e152_561, e152_563, e152_566, e152_568, e152_570, e152_573, e152_574, e152_576, e152_578, e152_581, e152_584, e152_587, e152_589, e152_591, e152_594, e152_595, e152_597, e152_599, e152_601, e152_604, e152_607, e152_610, e152_612, e152_614, e152_617, e152_618, e152_620, e152_622, e152_624, e152_627, e152_630, e152_633, e152_635, e152_637, e152_640, e152_641, e152_644, e152_647, e152_648, n0, n1, n2, jn, aft_v, aft_n, Option.bind_some, rf_some, ck_i, ck_r, ck_n, nb0, nb1, nbi, Nat.reduceAdd, if_true, if_false, not_false_eq_true, not_true_eq_false]
  · have jn : ¬ J n ≤ 0 := by rw [le_not, show (0 : Int32) = J 0 from rfl, J_lt (by omega) (by omega)]; omega
    obtain ⟨k1, k2⟩ := hk z0
    have g8 : ((8 : Int32) ≤ J h) = (8 ≤ h) := by rw [show (8 : Int32) = J 8 from rfl, J_le (by omega) (by omega)]
    have g11 : ((11 : Int32) ≤ J h) = (11 ≤ h) := by rw [show (11 : Int32) = J 11 from rfl, J_le (by omega) (by omega)]
    have g13 : ((13 : Int32) ≤ J h) = (13 ≤ h) := by rw [show (13 : Int32) = J 13 from rfl, J_le (by omega) (by omega)]
    have e13 : (J h = (13 : Int32)) = (h = 13) := by rw [show (13 : Int32) = J 13 from rfl, J_eq (by omega) (by omega)]
    by_cases q8 : 8 ≤ h
    · by_cases q11 : 11 ≤ h
      · by_cases q13 : 13 ≤ h
        · by_cases q : h = 13
          · obtain ⟨z', α', π', k', r, Z, G'⟩ := t150 (z := z) (β := β) (η := η) (o := o) (od := od) G
            refine ⟨z', α', π', n, k', u11, u12, u13, ?_, Zk_le Z (by omega), G'⟩
            simp only [↓reduceIte, e152_193, e152_195, e152_198, e152_199, e152_390, e152_392, e152_393, e152_491, e152_493, e152_494, e152_497, e152_498, e152_499, e152_561, e152_563, e152_566, e152_568, e152_570, e152_573, e152_574, e152_576, e152_578, e152_581, e152_584, e152_587, e152_589, e152_591, e152_594, e152_595, e152_597, e152_599, e152_601, e152_604, e152_607, e152_610, e152_612, e152_614, e152_617, e152_618, e152_620, e152_622, e152_624, e152_627, e152_630, e152_633, e152_635, e152_637, e152_640, e152_641, e152_644, e152_647, e152_648, n0, n1, n2, jn, g8, g11, g13, e13, eq_true q8, eq_true q11, eq_true q13, eq_true q, r, i1_0, aft_v, aft_n, Option.bind_some, rf_some, ck_i, ck_r, ck_n, nb0, nb1, nbi, Nat.reduceAdd, if_true, if_false, not_false_eq_true, not_true_eq_false]
          · refine ⟨z, α, π, n, k, u11, u12, u13, ?_, Zk_le (Zk_r z) (by omega), G⟩
            simp only [↓reduceIte, e152_193, e152_195, e152_198, e152_199, e152_390, e152_392, e152_393, e152_491, e152_493, e152_494, e152_497, e152_498, e152_499, e152_561, e152_563, e152_566, e152_568, e152_570, e152_573, e152_574, e152_576, e152_578, e152_581, e152_584, e152_587, e152_589, e152_591, e152_594, e152_595, e152_597, e152_599, e152_601, e152_604, e152_607, e152_610, e152_612, e152_614, e152_617, e152_618, e152_620, e152_622, e152_624, e152_627, e152_630, e152_633, e152_635, e152_637, e152_640, e152_641, e152_644, e152_647, e152_648, n0, n1, n2, jn, g8, g11, g13, e13, eq_true q8, eq_true q11, eq_true q13, eq_false q, aft_v, aft_n, Option.bind_some, rf_some, ck_i, ck_r, ck_n, nb0, nb1, nbi, Nat.reduceAdd, if_true, if_false, not_false_eq_true, not_true_eq_false]
        · obtain ⟨z', α', π', k', r, Z, G'⟩ := t149 (z := z) (β := β) (η := η) (o := o) (od := od) G k1 k2 v5
          refine ⟨z', α', π', n, k', u11, u12, u13, ?_, Z, G'⟩
          simp only [↓reduceIte, e152_193, e152_195, e152_198, e152_199, e152_390, e152_392, e152_393, e152_491, e152_493, e152_494, e152_497, e152_498, e152_499, e152_561, e152_563, e152_566, e152_568, e152_570, e152_573, e152_574, e152_576, e152_578, e152_581, e152_584, e152_587, e152_589, e152_591, e152_594, e152_595, e152_597, e152_599, e152_601, e152_604, e152_607, e152_610, e152_612, e152_614, e152_617, e152_618, e152_620, e152_622, e152_624, e152_627, e152_630, e152_633, e152_635, e152_637, e152_640, e152_641, e152_644, e152_647, e152_648, n0, n1, n2, jn, g8, g11, g13, eq_true q8, eq_true q11, eq_false q13, r, i1_0, aft_v, aft_n, Option.bind_some, rf_some, ck_i, ck_r, ck_n, nb0, nb1, nbi, Nat.reduceAdd, if_true, if_false, not_false_eq_true, not_true_eq_false]
      · obtain ⟨z', α', π', k', r, Z, G'⟩ := t148 (z := z) (β := β) (η := η) (o := o) (od := od) G k1 k2 v5
        refine ⟨z', α', π', n, k', u11, u12, u13, ?_, Z, G'⟩
        simp only [↓reduceIte, e152_193, e152_195, e152_198, e152_199, e152_390, e152_392, e152_393, e152_491, e152_493, e152_494, e152_497, e152_498, e152_499, e152_561, e152_563, e152_566, e152_568, e152_570, e152_573, e152_574, e152_576, e152_578, e152_581, e152_584, e152_587, e152_589, e152_591, e152_594, e152_595, e152_597, e152_599, e152_601, e152_604, e152_607, e152_610, e152_612, e152_614, e152_617, e152_618, e152_620, e152_622, e152_624, e152_627, e152_630, e152_633, e152_635, e152_637, e152_640, e152_641, e152_644, e152_647, e152_648, n0, n1, n2, jn, g8, g11, eq_true q8, eq_false q11, r, i1_0, aft_v, aft_n, Option.bind_some, rf_some, ck_i, ck_r, ck_n, nb0, nb1, nbi, Nat.reduceAdd, if_true, if_false, not_false_eq_true, not_true_eq_false]
    · obtain ⟨z', α', π', k', r, Z, G'⟩ := t147 (z := z) (β := β) (η := η) (o := o) (od := od) G k1 v5
      refine ⟨z', α', π', n, k', u11, u12, u13, ?_, Zk_le Z (by omega), G'⟩
      simp only [↓reduceIte, e152_193, e152_195, e152_198, e152_199, e152_390, e152_392, e152_393, e152_491, e152_493, e152_494, e152_497, e152_498, e152_499, e152_561, e152_563, e152_566, e152_568, e152_570, e152_573, e152_574, e152_576, e152_578, e152_581, e152_584, e152_587, e152_589, e152_591, e152_594, e152_595, e152_597, e152_599, e152_601, e152_604, e152_607, e152_610, e152_612, e152_614, e152_617, e152_618, e152_620, e152_622, e152_624, e152_627, e152_630, e152_633, e152_635, e152_637, e152_640, e152_641, e152_644, e152_647, e152_648, n0, n1, n2, jn, g8, eq_false q8, r, i1_0, aft_v, aft_n, Option.bind_some, rf_some, ck_i, ck_r, ck_n, nb0, nb1, nbi, Nat.reduceAdd, if_true, if_false, not_false_eq_true, not_true_eq_false]
/-- the checks behind each turn -/
theorem t152_z (G : Gs α π n k) (ht : t < 64) (w v4 v5 v6 v7 v8 v9 v10 : Int32) (u11 u12 u13 : Option Value) : ∃ z' α' π' k', Run 152 649 [some (.ref (0)), some (.ref (3)), some (.int (w)), some (.int (J t)), some (.int (v4)), some (.int (v5)), some (.int (v6)), some (.int (v7)), some (.int (v8)), some (.int (v9)), some (.int (v10)), u11, u12, u13] [] (HC z α π β η o od) = Run 152 81 [some (.ref (0)), some (.ref (3)), some (.int (w)), some (.int (J (t + 1))), some (.int (v4)), some (.int (v5)), some (.int (v6)), some (.int (v7)), some (.int (v8)), some (.int (v9)), some (.int (v10)), u11, u12, u13] [] (HC z' α' π' β η o od) ∧ Zk z z' 0 ∧ Gs α' π' n k' := by
  have H := G.ok
  have h8 := H.n8
  have r8 : J t - J t / 8 * 8 = J (t % 8) := J_rem (m := 8) (by omega) (by decide) (by decide)
  have e7 : (J (t % 8) = (7 : Int32)) = (t % 8 = 7) := by rw [show (7 : Int32) = J 7 from rfl, J_eq (by omega) (by omega)]
  by_cases q : t % 8 = 7
  · rcases Nat.eq_zero_or_pos n with z0 | z0
    · have jn : J n ≤ 0 := by rw [z0]; decide
      refine ⟨z, α, π, k, ?_, Zk_r z, G⟩
      simp only [↓reduceIte, e152_649, e152_650, e152_653, e152_656, e152_657, e152_659, e152_662, e152_665, e152_666, e152_668, e152_669, e152_671, e152_674, e152_675, e152_676, e152_679, e152_682, e152_683, e152_685, e152_686, e152_687, e152_688, e152_689, e152_692, e152_695, e152_698, e152_701, e152_702, e152_703, e152_706, t144 G.1, t145 H, i1_0, z8, r8, e7, eq_true q, t125_5 H, H.hn, jn, J_succ, aft_v, aft_n, Option.bind_some, rf_some, ck_i, ck_r, ck_n, nb0, nb1, nbi, Nat.reduceAdd, if_true, if_false, not_false_eq_true, not_true_eq_false]
    · have jn : ¬ J n ≤ 0 := by rw [le_not, show (0 : Int32) = J 0 from rfl, J_lt (by omega) (by omega)]; omega
      have q5 := t120 (z := z) (α := α) (π := π) (β := β) (η := η) (o := o) (od := od) (v5 >>> (5 &&& 31)) z0 (by omega)
      obtain ⟨z', α', π', k', r, Z, G'⟩ := t146 (z := z) (β := β) (η := η) (o := o) (od := od) G (lowN_lt (v5 >>> (5 &&& 31)) z0)
      refine ⟨z', α', π', k', ?_, Z, G'⟩
      simp only [↓reduceIte, e152_649, e152_650, e152_653, e152_656, e152_657, e152_659, e152_662, e152_665, e152_666, e152_668, e152_669, e152_671, e152_674, e152_675, e152_676, e152_679, e152_682, e152_683, e152_685, e152_686, e152_687, e152_688, e152_689, e152_692, e152_695, e152_698, e152_701, e152_702, e152_703, e152_706, t144 G.1, t145 H, i1_0, z8, r8, e7, eq_true q, t125_5 H, H.hn, jn, q5, r, J_succ, aft_v, aft_n, Option.bind_some, rf_some, ck_i, ck_r, ck_n, nb0, nb1, nbi, Nat.reduceAdd, if_true, if_false, not_false_eq_true, not_true_eq_false]
  · refine ⟨z, α, π, k, ?_, Zk_r z, G⟩
    simp only [↓reduceIte, e152_649, e152_650, e152_653, e152_656, e152_657, e152_659, e152_662, e152_665, e152_666, e152_668, e152_669, e152_671, e152_674, e152_675, e152_676, e152_679, e152_682, e152_683, e152_685, e152_686, e152_687, e152_688, e152_689, e152_692, e152_695, e152_698, e152_701, e152_702, e152_703, e152_706, t144 G.1, t145 H, i1_0, z8, r8, e7, eq_false q, J_succ, aft_v, aft_n, Option.bind_some, rf_some, ck_i, ck_r, ck_n, nb0, nb1, nbi, Nat.reduceAdd, if_true, if_false, not_false_eq_true, not_true_eq_false]
theorem t152_t (G : Gs α π n k) (hL : z.2.2.1 ≤ 260) (ht : t < 64) (w : Int32) (u4 u5 u6 u7 u8 u9 u10 u11 u12 u13 : Option Value) : ∃ z' α' π' n' k' a4 a5 a6 a7 a8 a9 a10 a11 a12 a13, Run 152 81 [some (.ref (0)), some (.ref (3)), some (.int (w)), some (.int (J t)), u4, u5, u6, u7, u8, u9, u10, u11, u12, u13] [] (HC z α π β η o od) = Run 152 81 [some (.ref (0)), some (.ref (3)), some (.int (w)), some (.int (J (t + 1))), a4, a5, a6, a7, a8, a9, a10, a11, a12, a13] [] (HC z' α' π' β η o od) ∧ Zk z z' 3 ∧ Gs α' π' n' k' := by
  obtain ⟨v4, v5, h, kk, tt, c, h16, hc, hk, w1⟩ := t152_a (π := π) (β := β) (η := η) (o := o) (od := od) G.ok hL ht w u4 u5 u6 u7 u8 u9 u10 u11 u12 u13
  have hm : Mid z α π β η o od w v4 v5 (J n) (J h) (J kk) (J tt) (J c) (J t) u11 u12 u13 := by
    have hh : h = 0 ∨ h = 1 ∨ h = 2 ∨ 3 ≤ h := by omega
    rcases hh with e | e | e | e
    · rw [e]; exact t152_0 G hc _ _ _ _ _ _ _ _ _
    · rw [e]; exact t152_1 G hc _ _ _ _ _ _ _ _ _
    · rw [e]; exact t152_2 G _ _ _ _ _ _ _ _ _
    · exact t152_3 G e h16 hk _ _ _ _ _ _ _
  obtain ⟨z1, α1, π1, n1, k1, a11, a12, a13, w2, Z1, G1⟩ := hm
  obtain ⟨z2, α2, π2, k2, w3, Z2, G2⟩ := t152_z (z := z1) (β := β) (η := η) (o := o) (od := od) G1 ht w v4 v5 (J n) (J h) (J kk) (J tt) (J c) a11 a12 a13
  exact ⟨z2, α2, π2, n1, k2, some (.int (v4)), some (.int (v5)), some (.int (J n)), some (.int (J h)), some (.int (J kk)), some (.int (J tt)), some (.int (J c)), a11, a12, a13, by rw [w1, w2, w3], Zk_t Z1 Z2, G2⟩
end S9B
