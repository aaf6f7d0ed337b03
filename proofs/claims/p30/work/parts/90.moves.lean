/-! the law's check 'moves' -/
theorem Jnn {a : Nat} (h : a < 2147483648) : ¬ J a < 0 := by rw [i32_lt, J_ti h, ti0]; omega
theorem Jn902 {a : Nat} (h : a < 2147483648) : ¬ J a = -902 := by rw [i32_eq, J_ti h, show (-902 : Int32).toInt = -902 from rfl]; omega
theorem Cn902 {α : Mem} {n : Nat} (H : Ok α n) {c : Int32} (h : isCellC α 4 c) : ¬ c = -902 := by
  obtain ⟨x, hx, e⟩ := cell_J H h
  rw [e]; exact Jn902 (by omega)
theorem sub11 (a : Int32) : a - 1 - 1 = a - 2 := by rw [Int32.sub_sub, show (1 : Int32) + 1 = 2 by decide]
theorem hd_back : ∀ h, h < 6 → hdN (hdN h 0) 1 = h ∧ hdN (hdN h 1) 0 = h := by decide
theorem hd_on : ∀ h, h < 6 → ∀ w, w < 6 → angN h w = 3 → ¬ angN (hdN h 0) w = 3 ∧ ¬ angN (hdN h 1) w = 3 := by decide
theorem Dn.g {α : Mem} {π : Nat → Nat} {n k : Nat} {α' : Mem} {π' : Nat → Nat} {n' k' : Nat} (D : Dn α π n k α' π' n' k') : Gs α' π' n' k' := D.1
theorem two_of {a : Nat} (h : a < 2) : a = 0 ∨ a = 1 := by omega
section S90
variable {z : Zr} {α β γ : Mem} {π : Nat → Nat} {η : Int64} {o : Nat → Int64} {od : Nat → UInt64} {n k : Nat}
/-- undoing what an undoable call did -/
theorem t143u {π' : Nat → Nat} {n' k' : Nat} {α1 : Mem} (G : Gs α π n k) (D : Dn α π n k α1 π' n' k') : ∃ α2 q, k' = q + 1 ∧ Run 143 0 [some (.ref (3)), none] [] (HC z α1 π' β η o od) = some (.inl (some (.int (J q))), (HC z α2 π' β η o od)) ∧ ¬ J q < 0 ∧ Sm α2 α n ∧ Gs α2 π' n q ∧ (1 ≤ k → ∀ α0 m, m ≤ 8 → Sv α π (k - 1) α0 m → 1 ≤ q ∧ Sv α2 π' (q - 1) α0 m) := by
  obtain ⟨d1, d2, d3, d4⟩ := D
  obtain ⟨q, rfl⟩ : ∃ q, k' = q + 1 := ⟨k' - 1, by omega⟩
  have hq := d1.h4
  obtain ⟨α2, e1, e2, e3, e4⟩ := t143 (z := z) (β := β) (η := η) (o := o) (od := od) d1.2 G.1 d3
  refine ⟨α2, q, rfl, e1, Jnn (by omega), e2, e3, fun h1 α0 m hm hs => ?_⟩
  obtain ⟨g1, g2⟩ := d4 h1 α0 m hm hs
  have g1' : 1 ≤ q := by omega
  exact ⟨g1', e4 g1' α0 m hm g2⟩
theorem t147_0 (H : Ok α n) {i : Nat} (hi : i < n) (x : Int32) : Run 147 0 [some (.ref (3)), some (.int (J i)), some (.int (x)), none, none, none, none, none, none, none] [] (HC z α π β η o od) = Run 147 65 [some (.ref (3)), some (.int (J i)), some (.int (x)), some (.int (if 0 < α (7 + i) 3 then α (7 + i) 1 else -1)), some (.int (α (7 + i) 2)), some (.int (α (7 + i) 9)), some (.int (bi (canSailC α (7 + i)))), none, none, none] [] (HC z α π β η o od) := by
  unfold canSailC bi
  by_cases h1 : 0 < α (7 + i) 3 <;> by_cases h2 : 0 < α (7 + i) 4 <;> by_cases h3 : α (7 + i) 12 = -1 <;> by_cases h4 : 0 < α (7 + i) 9 <;> simp only [↓reduceIte, e147_0, e147_1, e147_2, e147_3, e147_6, e147_7, e147_8, e147_9, e147_10, e147_13, e147_15, e147_16, e147_17, e147_19, e147_22, e147_24, e147_25, e147_26, e147_27, e147_30, e147_33, e147_34, e147_35, e147_36, e147_39, e147_42, e147_43, e147_44, e147_46, e147_49, e147_50, e147_53, e147_55, e147_58, e147_59, e147_62, e147_63, t126_1 H hi, t126_2 H hi, t126_8 H hi, t126_3 H hi, t126_4 H hi, t126_11 H hi, le_not, h1, h2, h3, h4, and_true, and_false, true_and, false_and, aft_v, aft_n, Option.bind_some, rf_some, ck_i, ck_r, ck_n, nb0, nb1, nbi, Nat.reduceAdd, if_true, if_false, not_false_eq_true, not_true_eq_false]
/-- ahead -/
theorem t147_a (G : Gs α π n k) {i : Nat} (hi : i < n) (x : Int32) : ∃ z' α' π' k', Run 147 73 [some (.ref (3)), some (.int (J i)), some (.int (x)), some (.int (if 0 < α (7 + i) 3 then α (7 + i) 1 else -1)), some (.int (α (7 + i) 2)), some (.int (α (7 + i) 9)), some (.int (bi (canSailC α (7 + i)))), none, none, none] [] (HC z α π β η o od) = some (.inl (some (.int 1)), HC z' α' π' β η o od) ∧ Zk z z' 1 ∧ Gs α' π' n k' := by
  have H := G.ok
  have h8 := H.n8
  have hc15 : (J (angN (hdA α (7 + i)) (wdN α)) = 3) = (angN (hdA α (7 + i)) (wdN α) = 3) := ang3 (H.hdJ hi).1 H.wdJ.1
  by_cases hm : canMoveC α n i
  · obtain ⟨⟨m1, m2, m3, m4⟩, m5, m6⟩ := id hm
    have hc := H.isC hi
    have nb := nb_at H hc (H.hdJ hi).1 m6.1
    obtain ⟨α1, π1, k1, r1, D1, ⟨o4, o5, o7⟩, ev⟩ := t130 (z := z) (β := β) (η := η) (o := o) (od := od) G hi hm
    have H1 := D1.g.ok
    have S1 := D1.g.1
    obtain ⟨α2, q, hq, r2, q0, sm, G2, -⟩ := t143u (z := z) (β := β) (η := η) (o := o) (od := od) G D1
    have hm2 : canMoveC α2 n i := (sm_move sm hi).mpr hm
    obtain ⟨α3, π3, k3, r3, D3, -, -⟩ := t130 (z := z) (β := β) (η := η) (o := o) (od := od) G2 hi hm2
    rw [sm_nb sm, sm.2.2 i hi 1 (by decide), sm_hd sm hi] at r3
    have th2 : thingC α2 n (nbC α (α (7 + i) 1) (hdA α (7 + i))) = -1 := by rw [sm_thing sm, thing_free h8 m6.1]; exact m6
    have H2 := G2.ok
    have e1 : α1 (7 + i) 1 = nbC α (α (7 + i) 1) (hdA α (7 + i)) := ev 1
    have e2 : α1 (7 + i) 2 = α (7 + i) 2 := ev 2
    have e3 : α1 (7 + i) 3 = α (7 + i) 3 := ev 3
    have e9 : α1 (7 + i) 9 = α (7 + i) 9 - 1 := ev 9
    have a1 : 0 < α1 (7 + i) 3 := by rw [e3]; exact m1
    have c1 : isCellC α1 4 (α (7 + i) 1) := by unfold isCellC; rw [o4]; exact hc
    have n1 : isCellC α1 4 (nbC α (α (7 + i) 1) (hdA α (7 + i))) := by unfold isCellC; rw [o4]; exact m6.1
    have n2 : isCellC α2 4 (nbC α (α (7 + i) 1) (hdA α (7 + i))) := by rw [sm_cell sm]; exact m6.1
    have f1 : frC α1 (α (7 + i) 1) (nbC α (α (7 + i) 1) (hdA α (7 + i))) = 1 := by rw [fr_4 (show α1 4 0 = α 4 0 by rw [o4])]; exact nb.2.1
    have g1 : sgC α1 (α (7 + i) 1) (nbC α (α (7 + i) 1) (hdA α (7 + i))) = α (7 + i) 2 + 10 := by rw [sg_4 (show α1 4 0 = α 4 0 by rw [o4]), (H.hdJ hi).2]; exact nb.1
    have own : thingC α1 n (nbC α (α (7 + i) 1) (hdA α (7 + i))) = J i := by have := at_own S1 hi a1; rw [e1] at this; exact this
    have left : thingC α1 n (α (7 + i) 1) = -1 := by
      rcases thing3 S1 (α (7 + i) 1) with ⟨r, -, -⟩ | ⟨-, h, -⟩ | ⟨-, q, hq, -, -, h2, h3⟩
      · have := r.2; rw [o5] at this; exact absurd (G.1.2.2.1 i hi m1) this
      · exact h
      · by_cases e : q = i
        · subst e; rw [e1] at h3; exact absurd h3.symm nb.2.2
        · rw [o7 q (by omega) e] at h2 h3
          exact absurd h3 (G.1.2.1 q i hq hi e h2 m1)
    refine ⟨z, α3, π3, k3, ?_, Zk_le (Zk_r z) (by omega), D3.g⟩
    rw [bi_t ⟨m1, m2, m3, m4⟩, if_pos m1]
    simp only [↓reduceIte, e147_73, e147_74, e147_75, e147_77, e147_80, e147_81, e147_84, e147_85, e147_88, e147_89, e147_91, e147_92, e147_93, e147_96, e147_98, e147_100, e147_103, e147_106, e147_107, e147_108, e147_109, e147_112, e147_113, e147_116, e147_117, e147_118, e147_120, e147_123, e147_125, e147_128, e147_129, e147_132, e147_133, e147_134, e147_136, e147_139, e147_141, e147_144, e147_145, e147_146, e147_147, e147_150, e147_152, e147_155, e147_156, e147_157, e147_159, e147_162, e147_163, e147_166, e147_167, e147_168, e147_170, e147_173, e147_175, e147_177, e147_178, e147_181, e147_182, e147_183, e147_186, e147_187, e147_190, e147_191, e147_193, e147_196, e147_197, e147_200, e147_201, e147_202, e147_204, e147_207, e147_209, e147_210, e147_211, e147_214, e147_215, e147_216, e147_217, e147_220, e147_222, e147_225, e147_226, e147_229, e147_232, e147_233, e147_235, e147_238, e147_239, e147_242, e147_243, e147_244, e147_247, e147_249, e147_252, e147_253, e147_256, e147_257, t126_13 H hi, hc15, eq_false m5, r1, Cn902 H m6.1, i1_0, t126_1a H1 hi a1, e1, t128 H1 c1 n1, f1, t129 H1 c1 n1, g1, t127 H1 c1, left, t127 H1 n1, own, t126_8 H1 hi, e9, t126_2 H1 hi, e2, r2, q0, t127 H2 n2, th2, r3, eq_self, aft_v, aft_n, Option.bind_some, rf_some, ck_i, ck_r, ck_n, nb0, nb1, nbi, Nat.reduceAdd, if_true, if_false, not_false_eq_true, not_true_eq_false]
  · refine ⟨zb z, α, π, k, ?_, Zk_b (Zk_r z), G⟩
    by_cases A : angN (hdA α (7 + i)) (wdN α) = 3
    · simp only [↓reduceIte, e147_73, e147_74, e147_75, e147_77, e147_80, e147_81, e147_84, e147_85, e147_88, e147_89, e147_91, e147_92, e147_93, e147_96, e147_98, e147_100, e147_103, e147_106, e147_107, e147_108, e147_109, e147_112, e147_113, e147_116, e147_117, e147_118, e147_120, e147_123, e147_125, e147_128, e147_129, e147_132, e147_133, e147_134, e147_136, e147_139, e147_141, e147_144, e147_145, e147_146, e147_147, e147_150, e147_152, e147_155, e147_156, e147_157, e147_159, e147_162, e147_163, e147_166, e147_167, e147_168, e147_170, e147_173, e147_175, e147_177, e147_178, e147_181, e147_182, e147_183, e147_186, e147_187, e147_190, e147_191, e147_193, e147_196, e147_197, e147_200, e147_201, e147_202, e147_204, e147_207, e147_209, e147_210, e147_211, e147_214, e147_215, e147_216, e147_217, e147_220, e147_222, e147_225, e147_226, e147_229, e147_232, e147_233, e147_235, e147_238, e147_239, e147_242, e147_243, e147_244, e147_247, e147_249, e147_252, e147_253, e147_256, e147_257, t126_13 H hi, hc15, eq_true A, t130_m H hi hm, t126_1 H hi, t126_8 H hi, eq_self, aft_v, aft_n, Option.bind_some, rf_some, ck_i, ck_r, ck_n, nb0, nb1, nbi, Nat.reduceAdd, if_true, if_false, not_false_eq_true, not_true_eq_false]
    · simp only [↓reduceIte, e147_73, e147_74, e147_75, e147_77, e147_80, e147_81, e147_84, e147_85, e147_88, e147_89, e147_91, e147_92, e147_93, e147_96, e147_98, e147_100, e147_103, e147_106, e147_107, e147_108, e147_109, e147_112, e147_113, e147_116, e147_117, e147_118, e147_120, e147_123, e147_125, e147_128, e147_129, e147_132, e147_133, e147_134, e147_136, e147_139, e147_141, e147_144, e147_145, e147_146, e147_147, e147_150, e147_152, e147_155, e147_156, e147_157, e147_159, e147_162, e147_163, e147_166, e147_167, e147_168, e147_170, e147_173, e147_175, e147_177, e147_178, e147_181, e147_182, e147_183, e147_186, e147_187, e147_190, e147_191, e147_193, e147_196, e147_197, e147_200, e147_201, e147_202, e147_204, e147_207, e147_209, e147_210, e147_211, e147_214, e147_215, e147_216, e147_217, e147_220, e147_222, e147_225, e147_226, e147_229, e147_232, e147_233, e147_235, e147_238, e147_239, e147_242, e147_243, e147_244, e147_247, e147_249, e147_252, e147_253, e147_256, e147_257, t126_13 H hi, hc15, eq_false A, t130_m H hi hm, t126_1 H hi, t126_8 H hi, eq_self, aft_v, aft_n, Option.bind_some, rf_some, ck_i, ck_r, ck_n, nb0, nb1, nbi, Nat.reduceAdd, if_true, if_false, not_false_eq_true, not_true_eq_false]
/-- turning -/
theorem t147_b (G : Gs α π n k) {i : Nat} (hi : i < n) (x : Int32) {r : Int32} (hr : r = 0 ∨ r = 1) : ∃ z' α' π' k', Run 147 275 [some (.ref (3)), some (.int (J i)), some (.int (x)), some (.int (if 0 < α (7 + i) 3 then α (7 + i) 1 else -1)), some (.int (α (7 + i) 2)), some (.int (α (7 + i) 9)), some (.int (bi (canSailC α (7 + i)))), some (.int (r)), none, none] [] (HC z α π β η o od) = some (.inl (some (.int 1)), HC z' α' π' β η o od) ∧ Zk z z' 1 ∧ Gs α' π' n k' := by
  have H := G.ok
  have h8 := H.n8
  have hd := H.hdJ hi
  have tr := trn _ hd.1
  by_cases hm : canSwingC α i r
  · obtain ⟨⟨m1, m2, m3, m4⟩, m5⟩ := id hm
    obtain ⟨α1, π1, k1, r1, D1, ⟨o4, o5, o7⟩, ev⟩ := t131 (z := z) (β := β) (η := η) (o := o) (od := od) G hi hr hm
    have G1 := D1.g
    have H1 := G1.ok
    have hl := hdN_lt (hdA α (7 + i)) r
    have e1 : α1 (7 + i) 1 = α (7 + i) 1 := ev 1
    have e2 : α1 (7 + i) 2 = J (hdN (hdA α (7 + i)) r) := ev 2
    have e3 : α1 (7 + i) 3 = α (7 + i) 3 := ev 3
    have e4 : α1 (7 + i) 4 = α (7 + i) 4 := ev 4
    have e9 : α1 (7 + i) 9 = α (7 + i) 9 - 1 := ev 9
    have e12 : α1 (7 + i) 12 = α (7 + i) 12 := ev 12
    have e14 : α1 (7 + i) 14 = 0 := ev 14
    have a1 : 0 < α1 (7 + i) 3 := by rw [e3]; exact m1
    have eh : hdA α1 (7 + i) = hdN (hdA α (7 + i)) r := by show (α1 (7 + i) 2).toNatClampNeg = _; rw [e2]; exact J_tn (by omega)
    have ew : wdN α1 = wdN α := by unfold wdN; rw [o4]
    have c15 : (J (angN (hdA α1 (7 + i)) (wdN α1)) = 3) = (angN (hdN (hdA α (7 + i)) r) (wdN α) = 3) := by rw [ang3 (H1.hdJ hi).1 H1.wdJ.1, eh, ew]
    have told : (if r = 0 then J ((hdA α (7 + i) + 5) % 6) else J ((hdA α (7 + i) + 1) % 6)) = J (hdN (hdA α (7 + i)) r) := by unfold hdN; split <;> rfl
    have hp := H.pts i hi
    -- the first turn
    have w1 : Run 147 275 [some (.ref (3)), some (.int (J i)), some (.int (x)), some (.int (if 0 < α (7 + i) 3 then α (7 + i) 1 else -1)), some (.int (α (7 + i) 2)), some (.int (α (7 + i) 9)), some (.int (bi (canSailC α (7 + i)))), some (.int (r)), none, none] [] (HC z α π β η o od) = Run 147 373 [some (.ref (3)), some (.int (J i)), some (.int (x)), some (.int (α (7 + i) 1)), some (.int (α (7 + i) 2)), some (.int (α (7 + i) 9)), some (.int (1)), some (.int (r)), some (.int (J (hdN (hdA α (7 + i)) r))), none] [] (HC z α1 π1 β η o od) := by
      rw [bi_t ⟨m1, m2, m3, m4⟩, if_pos m1]
      rcases hr with rfl | rfl
      · simp only [↓reduceIte, e147_275, e147_276, e147_277, e147_279, e147_282, e147_284, e147_286, e147_289, e147_292, e147_293, e147_294, e147_295, e147_298, e147_300, e147_303, e147_304, e147_305, e147_307, e147_310, e147_312, e147_315, e147_316, e147_319, e147_320, e147_321, e147_323, e147_326, e147_328, e147_330, e147_332, e147_335, e147_336, e147_339, e147_340, e147_341, e147_343, e147_344, e147_347, e147_348, e147_349, e147_351, e147_354, e147_356, e147_357, e147_358, e147_361, e147_362, e147_363, e147_364, e147_367, e147_368, e147_371, e147_372, r1, Jn902 (show (hdA α (7 + i) + 5) % 6 < 2147483648 by omega), i1_0, hd.2, tr.1, tr.2, show hdN (hdA α (7 + i)) 0 = (hdA α (7 + i) + 5) % 6 from rfl, z6, t126_8 H1 hi, e9, t126_1a H1 hi a1, e1, eq_self, aft_v, aft_n, Option.bind_some, rf_some, ck_i, ck_r, ck_n, nb0, nb1, nbi, Nat.reduceAdd, if_true, if_false, not_false_eq_true, not_true_eq_false]
      · simp only [↓reduceIte, e147_275, e147_276, e147_277, e147_279, e147_282, e147_284, e147_286, e147_289, e147_292, e147_293, e147_294, e147_295, e147_298, e147_300, e147_303, e147_304, e147_305, e147_307, e147_310, e147_312, e147_315, e147_316, e147_319, e147_320, e147_321, e147_323, e147_326, e147_328, e147_330, e147_332, e147_335, e147_336, e147_339, e147_340, e147_341, e147_343, e147_344, e147_347, e147_348, e147_349, e147_351, e147_354, e147_356, e147_357, e147_358, e147_361, e147_362, e147_363, e147_364, e147_367, e147_368, e147_371, e147_372, r1, Jn902 (show (hdA α (7 + i) + 1) % 6 < 2147483648 by omega), i1_0, hd.2, tr.1, tr.2, show hdN (hdA α (7 + i)) 1 = (hdA α (7 + i) + 1) % 6 from rfl, z6, t126_8 H1 hi, e9, t126_1a H1 hi a1, e1, eq_self, aft_v, aft_n, Option.bind_some, rf_some, ck_i, ck_r, ck_n, nb0, nb1, nbi, Nat.reduceAdd, if_true, if_false, not_false_eq_true, not_true_eq_false]
    rw [w1]
    by_cases p2 : α (7 + i) 9 < 2
    · have p2' : ¬ 2 ≤ α (7 + i) 9 := by rw [le_not]; exact fun w => w p2
      refine ⟨z, α1, π1, k1, ?_, Zk_le (Zk_r z) (by omega), G1⟩
      by_cases A : angN (hdN (hdA α (7 + i)) r) (wdN α) = 3
      · simp only [↓reduceIte, e147_373, e147_374, e147_375, e147_377, e147_380, e147_381, e147_384, e147_386, e147_387, e147_390, e147_392, e147_393, e147_396, e147_397, e147_398, e147_400, e147_403, e147_406, e147_407, e147_410, e147_411, e147_412, e147_413, e147_414, e147_416, e147_419, e147_420, e147_423, e147_424, e147_427, e147_429, e147_431, e147_434, e147_437, e147_439, e147_441, e147_444, e147_445, e147_446, e147_448, e147_451, e147_453, e147_454, e147_455, e147_458, e147_459, e147_462, e147_463, t126_13 H1 hi, c15, eq_true A, p2, p2', aft_v, aft_n, Option.bind_some, rf_some, ck_i, ck_r, ck_n, nb0, nb1, nbi, Nat.reduceAdd, if_true, if_false, not_false_eq_true, not_true_eq_false]
      · simp only [↓reduceIte, e147_373, e147_374, e147_375, e147_377, e147_380, e147_381, e147_384, e147_386, e147_387, e147_390, e147_392, e147_393, e147_396, e147_397, e147_398, e147_400, e147_403, e147_406, e147_407, e147_410, e147_411, e147_412, e147_413, e147_414, e147_416, e147_419, e147_420, e147_423, e147_424, e147_427, e147_429, e147_431, e147_434, e147_437, e147_439, e147_441, e147_444, e147_445, e147_446, e147_448, e147_451, e147_453, e147_454, e147_455, e147_458, e147_459, e147_462, e147_463, t126_13 H1 hi, c15, eq_false A, p2, p2', aft_v, aft_n, Option.bind_some, rf_some, ck_i, ck_r, ck_n, nb0, nb1, nbi, Nat.reduceAdd, if_true, if_false, not_false_eq_true, not_true_eq_false]
    · have p2' : 2 ≤ α (7 + i) 9 := by rw [le_not]; exact p2
      have p9 : 0 < α1 (7 + i) 9 := by
        rw [e9, i32_lt, ti0, sub_ti (by rw [ti1]; omega) (by rw [ti1]; omega), ti1]
        rw [i32_lt, show (2 : Int32).toInt = 2 from rfl] at p2
        omega
      have sail : canSailC α1 (7 + i) := ⟨a1, by rw [e4]; exact m2, by rw [e12]; exact m3, p9⟩
      by_cases A : angN (hdN (hdA α (7 + i)) r) (wdN α) = 3
      · have on := hd_on _ hl _ H.wdJ.1 A
        have hm1 : canSwingC α1 i r := ⟨sail, Or.inr (by rw [eh, ew]; rcases hr with rfl | rfl; exact on.1; exact on.2)⟩
        obtain ⟨α2, π2, k2, r2, D2, -, -⟩ := t131 (z := z) (β := β) (η := η) (o := o) (od := od) G1 hi hr hm1
        refine ⟨z, α2, π2, k2, ?_, Zk_le (Zk_r z) (by omega), D2.g⟩
        simp only [↓reduceIte, e147_373, e147_374, e147_375, e147_377, e147_380, e147_381, e147_384, e147_386, e147_387, e147_390, e147_392, e147_393, e147_396, e147_397, e147_398, e147_400, e147_403, e147_406, e147_407, e147_410, e147_411, e147_412, e147_413, e147_414, e147_416, e147_419, e147_420, e147_423, e147_424, e147_427, e147_429, e147_431, e147_434, e147_437, e147_439, e147_441, e147_444, e147_445, e147_446, e147_448, e147_451, e147_453, e147_454, e147_455, e147_458, e147_459, e147_462, e147_463, t126_13 H1 hi, c15, eq_true A, p2, p2', r2, Jnn (show hdN (hdA α1 (7 + i)) r < 2147483648 by have := hdN_lt (hdA α1 (7 + i)) r; omega), aft_v, aft_n, Option.bind_some, rf_some, ck_i, ck_r, ck_n, nb0, nb1, nbi, Nat.reduceAdd, if_true, if_false, not_false_eq_true, not_true_eq_false]
      · rcases hr with rfl | rfl
        · by_cases hm1 : canSwingC α1 i 1
          · obtain ⟨α2, π2, k2, r2, D2, -, ev2⟩ := t131 (z := z) (β := β) (η := η) (o := o) (od := od) G1 hi (Or.inr rfl) hm1
            rw [eh, (hd_back _ hd.1).1, ← hd.2] at r2
            have e29 : α2 (7 + i) 9 = α (7 + i) 9 - 2 := by have : α2 (7 + i) 9 = α1 (7 + i) 9 - 1 := ev2 9; rw [this, e9, sub11]
            have nn : ¬ α (7 + i) 2 = -902 := by rw [hd.2]; exact Jn902 (by have := hd.1; omega)
            refine ⟨z, α2, π2, k2, ?_, Zk_le (Zk_r z) (by omega), D2.g⟩
            simp only [↓reduceIte, e147_373, e147_374, e147_375, e147_377, e147_380, e147_381, e147_384, e147_386, e147_387, e147_390, e147_392, e147_393, e147_396, e147_397, e147_398, e147_400, e147_403, e147_406, e147_407, e147_410, e147_411, e147_412, e147_413, e147_414, e147_416, e147_419, e147_420, e147_423, e147_424, e147_427, e147_429, e147_431, e147_434, e147_437, e147_439, e147_441, e147_444, e147_445, e147_446, e147_448, e147_451, e147_453, e147_454, e147_455, e147_458, e147_459, e147_462, e147_463, t126_13 H1 hi, c15, eq_false A, p2, p2', r2, nn, t126_8 D2.g.ok hi, e29, eq_self, aft_v, aft_n, Option.bind_some, rf_some, ck_i, ck_r, ck_n, nb0, nb1, nbi, Nat.reduceAdd, if_true, if_false, not_false_eq_true, not_true_eq_false]
          · refine ⟨zb z, α1, π1, k1, ?_, Zk_b (Zk_r z), G1⟩
            simp only [↓reduceIte, e147_373, e147_374, e147_375, e147_377, e147_380, e147_381, e147_384, e147_386, e147_387, e147_390, e147_392, e147_393, e147_396, e147_397, e147_398, e147_400, e147_403, e147_406, e147_407, e147_410, e147_411, e147_412, e147_413, e147_414, e147_416, e147_419, e147_420, e147_423, e147_424, e147_427, e147_429, e147_431, e147_434, e147_437, e147_439, e147_441, e147_444, e147_445, e147_446, e147_448, e147_451, e147_453, e147_454, e147_455, e147_458, e147_459, e147_462, e147_463, t126_13 H1 hi, c15, eq_false A, p2, p2', t131_m H1 hi (Or.inr rfl) hm1, eq_self, aft_v, aft_n, Option.bind_some, rf_some, ck_i, ck_r, ck_n, nb0, nb1, nbi, Nat.reduceAdd, if_true, if_false, not_false_eq_true, not_true_eq_false]
        · by_cases hm1 : canSwingC α1 i 0
          · obtain ⟨α2, π2, k2, r2, D2, -, ev2⟩ := t131 (z := z) (β := β) (η := η) (o := o) (od := od) G1 hi (Or.inl rfl) hm1
            rw [eh, (hd_back _ hd.1).2, ← hd.2] at r2
            have e29 : α2 (7 + i) 9 = α (7 + i) 9 - 2 := by have : α2 (7 + i) 9 = α1 (7 + i) 9 - 1 := ev2 9; rw [this, e9, sub11]
            have nn : ¬ α (7 + i) 2 = -902 := by rw [hd.2]; exact Jn902 (by have := hd.1; omega)
            refine ⟨z, α2, π2, k2, ?_, Zk_le (Zk_r z) (by omega), D2.g⟩
            simp only [↓reduceIte, e147_373, e147_374, e147_375, e147_377, e147_380, e147_381, e147_384, e147_386, e147_387, e147_390, e147_392, e147_393, e147_396, e147_397, e147_398, e147_400, e147_403, e147_406, e147_407, e147_410, e147_411, e147_412, e147_413, e147_414, e147_416, e147_419, e147_420, e147_423, e147_424, e147_427, e147_429, e147_431, e147_434, e147_437, e147_439, e147_441, e147_444, e147_445, e147_446, e147_448, e147_451, e147_453, e147_454, e147_455, e147_458, e147_459, e147_462, e147_463, t126_13 H1 hi, c15, eq_false A, p2, p2', i1_0, r2, nn, t126_8 D2.g.ok hi, e29, eq_self, aft_v, aft_n, Option.bind_some, rf_some, ck_i, ck_r, ck_n, nb0, nb1, nbi, Nat.reduceAdd, if_true, if_false, not_false_eq_true, not_true_eq_false]
          · refine ⟨zb z, α1, π1, k1, ?_, Zk_b (Zk_r z), G1⟩
            simp only [↓reduceIte, e147_373, e147_374, e147_375, e147_377, e147_380, e147_381, e147_384, e147_386, e147_387, e147_390, e147_392, e147_393, e147_396, e147_397, e147_398, e147_400, e147_403, e147_406, e147_407, e147_410, e147_411, e147_412, e147_413, e147_414, e147_416, e147_419, e147_420, e147_423, e147_424, e147_427, e147_429, e147_431, e147_434, e147_437, e147_439, e147_441, e147_444, e147_445, e147_446, e147_448, e147_451, e147_453, e147_454, e147_455, e147_458, e147_459, e147_462, e147_463, t126_13 H1 hi, c15, eq_false A, p2, p2', i1_0, t131_m H1 hi (Or.inl rfl) hm1, eq_self, aft_v, aft_n, Option.bind_some, rf_some, ck_i, ck_r, ck_n, nb0, nb1, nbi, Nat.reduceAdd, if_true, if_false, not_false_eq_true, not_true_eq_false]
  · refine ⟨zb z, α, π, k, ?_, Zk_b (Zk_r z), G⟩
    simp only [↓reduceIte, e147_275, e147_276, e147_277, e147_279, e147_282, e147_284, e147_286, e147_289, e147_292, e147_293, e147_294, e147_295, e147_298, e147_300, e147_303, e147_304, e147_305, e147_307, e147_310, e147_312, e147_315, e147_316, e147_319, e147_320, e147_321, e147_323, e147_326, e147_328, e147_330, e147_332, e147_335, e147_336, e147_339, e147_340, e147_341, e147_343, e147_344, e147_347, e147_348, e147_349, e147_351, e147_354, e147_356, e147_357, e147_358, e147_361, e147_362, e147_363, e147_364, e147_367, e147_368, e147_371, e147_372, t131_m H hi hr hm, t126_2 H hi, t126_8 H hi, eq_self, aft_v, aft_n, Option.bind_some, rf_some, ck_i, ck_r, ck_n, nb0, nb1, nbi, Nat.reduceAdd, if_true, if_false, not_false_eq_true, not_true_eq_false]
theorem t147 (G : Gs α π n k) {i : Nat} (hi : i < n) (x : Int32) : ∃ z' α' π' k', Run 147 0 [some (.ref (3)), some (.int (J i)), some (.int (x)), none, none, none, none, none, none, none] [] (HC z α π β η o od) = some (.inl (some (.int 1)), HC z' α' π' β η o od) ∧ Zk z z' 1 ∧ Gs α' π' n k' := by
  have H := G.ok
  rw [t147_0 H hi]
  have b1 := lowN_lt x (m := 2) (by decide)
  have b2 := lowN_lt (x >>> (1 &&& 31)) (m := 2) (by decide)
  rcases two_of b1 with e | e
  · obtain ⟨z', α', π', k', r, Z, G'⟩ := t147_a (z := z) (β := β) (η := η) (o := o) (od := od) G hi x
    refine ⟨z', α', π', k', ?_, Z, G'⟩
    rw [← r]
    simp only [↓reduceIte, e147_65, e147_66, e147_67, e147_70, t120_2, e, show J 0 = (0 : Int32) from rfl, eq_self, aft_v, aft_n, Option.bind_some, rf_some, ck_i, ck_r, ck_n, nb0, nb1, nbi, Nat.reduceAdd, if_true, if_false, not_false_eq_true, not_true_eq_false]
  · rcases two_of b2 with e2 | e2
    · obtain ⟨z', α', π', k', r, Z, G'⟩ := t147_b (z := z) (β := β) (η := η) (o := o) (od := od) G hi x (Or.inr rfl)
      refine ⟨z', α', π', k', ?_, Z, G'⟩
      rw [← r]
      simp only [↓reduceIte, e147_65, e147_66, e147_67, e147_70, e147_258, e147_259, e147_260, e147_261, e147_262, e147_265, e147_268, e147_269, e147_272, e147_273, t120_2, e, e2, show J 0 = (0 : Int32) from rfl, show J 1 = (1 : Int32) from rfl, i1_0, eq_self, aft_v, aft_n, Option.bind_some, rf_some, ck_i, ck_r, ck_n, nb0, nb1, nbi, Nat.reduceAdd, if_true, if_false, not_false_eq_true, not_true_eq_false]
    · obtain ⟨z', α', π', k', r, Z, G'⟩ := t147_b (z := z) (β := β) (η := η) (o := o) (od := od) G hi x (Or.inl rfl)
      refine ⟨z', α', π', k', ?_, Z, G'⟩
      rw [← r]
      simp only [↓reduceIte, e147_65, e147_66, e147_67, e147_70, e147_258, e147_259, e147_260, e147_261, e147_262, e147_265, e147_268, e147_269, e147_272, e147_273, t120_2, e, e2, show J 0 = (0 : Int32) from rfl, show J 1 = (1 : Int32) from rfl, i1_0, eq_self, aft_v, aft_n, Option.bind_some, rf_some, ck_i, ck_r, ck_n, nb0, nb1, nbi, Nat.reduceAdd, if_true, if_false, not_false_eq_true, not_true_eq_false]
end S90
