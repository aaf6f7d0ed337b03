/-! the law's check 'thoughts' -/
theorem J_half : ∀ y, y < 16 → J y / 2 = J (y / 2) ∧ J y - J y / 2 * 2 = J (y % 2) := by decide
theorem J_2t : ∀ t, t < 8 → 2 * J t + 0 = J (2 * t) ∧ 2 * J t + 1 = J (2 * t + 1) := by decide
theorem p50 : (5 : Int32) + 0 = 5 := by decide
theorem p51 : (5 : Int32) + 1 = 6 := by decide
theorem z22 : ¬ (2 : Int32) ≤ 0 := by decide
theorem z12 : ¬ (2 : Int32) ≤ 1 := by decide
theorem z11 : (0 : Int32) + 1 = 1 := by decide
theorem z1p1 : (1 : Int32) + 1 = 2 := by decide
theorem le22 : (2 : Int32) ≤ 2 := by decide
theorem J_two (y : Nat) (h : y < 16) : J (y % 2) = 0 ∨ J (y % 2) = 1 := by
  rcases two_of (show y % 2 < 2 by omega) with e | e <;> rw [e]
  · exact Or.inl rfl
  · exact Or.inr rfl
section S97
variable {z : Zr} {α β γ : Mem} {π : Nat → Nat} {η : Int64} {o : Nat → Int64} {od : Nat → UInt64} {n k : Nat}
/-- every cell is asked for -/
theorem t146_1 (G : Gs α π n k) {i : Nat} (hi : i < n) (d : Int64) {pv : Nat → Int32} (c1 : ∀ x r, PV α n i x r → r = pv x) (c2 : ∀ x, x < 144 → pv x = -1 ∨ (0 < α (7 + i) 3 ∧ isCellC α 4 (J x) ∧ (freeC α n (J x) ∨ J x = α (7 + i) 1) ∧ 0 ≤ (pv x).toInt ∧ (frC α (α (7 + i) 1) (J x)).toInt + (pv x).toInt ≤ (α (7 + i) 9).toInt)) : ∀ q c (v : Int32) (u : Option Value) (αx : Mem), c + q = szN α → Fc α αx → ∃ u' αy, Run 146 33 [some (.ref (3)), some (.int (J i)), some (.long (d)), none, some (.int (J (szN α))), some (.int (α (7 + i) 9)), some (.int (v)), some (.int (J c)), u, none, none, none, none, none, none] [] (HC z αx π β η o od) = Run 146 132 [some (.ref (3)), some (.int (J i)), some (.long (d)), none, some (.int (J (szN α))), some (.int (α (7 + i) 9)), some (.int (cntF (fun x => ¬ pv x = -1) q c v)), some (.int (J (szN α))), u', none, none, none, none, none, none] [] (HC z αy π β η o od) ∧ Fc α αy := by
  have H := G.ok
  have h8 := H.n8
  have hs := H.sz
  intro q
  induction q with
  | zero =>
    intro c v u αx hc F
    have : c = szN α := by omega
    subst this
    exact ⟨u, αx, by simp only [↓reduceIte, e146_33, e146_35, e146_37, e146_40, e146_41, e146_42, e146_44, e146_47, e146_49, e146_51, e146_53, e146_54, e146_57, e146_58, e146_61, e146_62, e146_63, e146_65, e146_67, e146_68, e146_71, e146_73, e146_75, e146_78, e146_80, e146_81, e146_84, e146_85, e146_86, e146_87, e146_88, e146_91, e146_93, e146_96, e146_98, e146_100, e146_101, e146_104, e146_105, e146_107, e146_110, e146_111, e146_114, e146_115, e146_117, e146_120, e146_121, e146_124, e146_125, e146_126, e146_129, Int32.le_refl, cntF, aft_v, aft_n, Option.bind_some, rf_some, ck_i, ck_r, ck_n, nb0, nb1, nbi, Nat.reduceAdd, if_true, if_false, not_false_eq_true, not_true_eq_false], F⟩
  | succ q ih =>
    intro c v u αx hc F
    have l0 : ¬ J (szN α) ≤ J c := by rw [J_le (by omega) (by omega)]; omega
    have Gx := Gs_fc G F
    have Hx := Gx.ok
    have sq := Fc_sq F
    have e7 : αx (7 + i) = α (7 + i) := sq (7 + i) (by omega) (by omega)
    have e4 : αx 4 = α 4 := sq 4 (by decide) (by decide)
    have hcell : isCellC α 4 (J c) := rock_lt H (by omega)
    have cx : isCellC αx 4 (J c) := by unfold isCellC; rw [e4]; exact hcell
    obtain ⟨αy, r, r1, F1, p1⟩ := t138 (z := z) (π := π) (β := β) (η := η) (o := o) (od := od) Hx hi (show c < 144 by omega) cx
    have F2 := Fc_t F F1
    have Hy := (Gs_fc G F2).ok
    have sq2 := Fc_sq F2
    have f7 : αy (7 + i) = α (7 + i) := sq2 (7 + i) (by omega) (by omega)
    have f4 : αy 4 = α 4 := sq2 4 (by decide) (by decide)
    have p2 : PV α n i c r := by
      rcases p1 with ⟨a, b⟩ | ⟨a, pF, b, b2⟩
      · rw [e7] at a; exact Or.inl ⟨a, b⟩
      · rw [e7] at a
        refine Or.inr ⟨a, pF, ?_, b2⟩
        have eph : phN αx i = phN α i := by unfold phN; rw [e7]
        have ept : pts0 αx i = pts0 α i := by unfold pts0 hdA; rw [e7]
        rw [eph, ept] at b
        exact (Phs_sq sq h8 (by omega) _ _ _).mp b
    have er := c1 c r p2
    rw [cntF]
    rcases c2 c (by omega) with m | ⟨ha, -, m2, m3, m4⟩
    · rw [m] at er
      subst er
      have a1 : ¬ α (7 + i) 9 < -1 := by have := (H.pts i hi).1; rw [i32_lt, tim1]; omega
      obtain ⟨u', αz, g, Fz⟩ := ih (c + 1) v (some (.int (-1))) αy (by omega) F2
      refine ⟨u', αz, ?_, Fz⟩
      rw [if_neg (fun w => w m), ← g, e146_33]
      simp only [↓reduceIte, e146_35, e146_37, e146_40, e146_41, e146_42, e146_44, e146_47, e146_49, e146_51, e146_53, e146_54, e146_57, e146_58, e146_61, e146_62, e146_63, e146_65, e146_67, e146_68, e146_71, e146_73, e146_75, e146_78, e146_80, e146_81, e146_84, e146_85, e146_86, e146_87, e146_88, e146_91, e146_93, e146_96, e146_98, e146_100, e146_101, e146_104, e146_105, e146_107, e146_110, e146_111, e146_114, e146_115, e146_117, e146_120, e146_121, e146_124, e146_125, e146_126, e146_129, l0, r1, show ¬ (-1 : Int32) < -1 by decide, a1, Int32.add_zero, J_succ, eq_self, aft_v, aft_n, Option.bind_some, rf_some, ck_i, ck_r, ck_n, nb0, nb1, nbi, Nat.reduceAdd, if_true, if_false, not_false_eq_true, not_true_eq_false]
    · have m : ¬ pv c = -1 := by rw [i32_eq, tim1]; omega
      rw [← er] at m m3 m4
      have cy : isCellC αy 4 (J c) := by unfold isCellC; rw [f4]; exact hcell
      have oy : isCellC αy 4 (α (7 + i) 1) := by unfold isCellC; rw [f4]; exact H.isC hi
      have hy : 0 < αy (7 + i) 3 := by rw [f7]; exact ha
      have pb := H.pts i hi
      obtain ⟨w, w1, w2⟩ := far_bd H (H.isC hi) hcell
      have a1 : ¬ r < -1 := by rw [i32_lt, tim1]; omega
      have a2 : ¬ α (7 + i) 9 < r := by rw [w2, J_ti (by omega)] at m4; rw [i32_lt]; omega
      have w3 : (frC α (α (7 + i) 1) (J c)).toInt = w := by rw [w2]; exact J_ti (by omega)
      have a3 : ¬ α (7 + i) 9 - r < frC α (α (7 + i) 1) (J c) := by rw [i32_lt, sub_ti (by omega) (by omega)]; omega
      have fy : frC αy (α (7 + i) 1) (J c) = frC α (α (7 + i) 1) (J c) := fr_4 (by rw [f4]) _ _
      have o1 : αy (7 + i) 1 = α (7 + i) 1 := by rw [f7]
      obtain ⟨u', αz, g, Fz⟩ := ih (c + 1) (v + 1) (some (.int r)) αy (by omega) F2
      refine ⟨u', αz, ?_, Fz⟩
      rw [if_pos (by rw [← er]; exact m), ← g, e146_33]
      have th : thingC αy n (J c) = -1 ∨ (¬ thingC αy n (J c) = -1 ∧ thingC αy n (J c) = J i) := by
        rw [thing_sq sq2 h8]
        rcases m2 with m2 | m2
        · left; rw [thing_free h8 hcell]; exact m2
        · right
          have := at_own G.1 hi ha
          rw [← m2] at this
          rw [this]
          exact ⟨Jm1 (by omega), rfl⟩
      rcases th with th | ⟨th1, th2⟩
      · simp only [↓reduceIte, e146_35, e146_37, e146_40, e146_41, e146_42, e146_44, e146_47, e146_49, e146_51, e146_53, e146_54, e146_57, e146_58, e146_61, e146_62, e146_63, e146_65, e146_67, e146_68, e146_71, e146_73, e146_75, e146_78, e146_80, e146_81, e146_84, e146_85, e146_86, e146_87, e146_88, e146_91, e146_93, e146_96, e146_98, e146_100, e146_101, e146_104, e146_105, e146_107, e146_110, e146_111, e146_114, e146_115, e146_117, e146_120, e146_121, e146_124, e146_125, e146_126, e146_129, l0, r1, m, a1, a2, t126_1a Hy hi hy, o1, t128 Hy oy cy, fy, a3, t127 Hy cy, eq_true th, J_succ, eq_self, aft_v, aft_n, Option.bind_some, rf_some, ck_i, ck_r, ck_n, nb0, nb1, nbi, Nat.reduceAdd, if_true, if_false, not_false_eq_true, not_true_eq_false]
      · simp only [↓reduceIte, e146_35, e146_37, e146_40, e146_41, e146_42, e146_44, e146_47, e146_49, e146_51, e146_53, e146_54, e146_57, e146_58, e146_61, e146_62, e146_63, e146_65, e146_67, e146_68, e146_71, e146_73, e146_75, e146_78, e146_80, e146_81, e146_84, e146_85, e146_86, e146_87, e146_88, e146_91, e146_93, e146_96, e146_98, e146_100, e146_101, e146_104, e146_105, e146_107, e146_110, e146_111, e146_114, e146_115, e146_117, e146_120, e146_121, e146_124, e146_125, e146_126, e146_129, l0, r1, m, a1, a2, t126_1a Hy hi hy, o1, t128 Hy oy cy, fy, a3, t127 Hy cy, eq_false th1, eq_true th2, J_succ, eq_self, aft_v, aft_n, Option.bind_some, rf_some, ck_i, ck_r, ck_n, nb0, nb1, nbi, Nat.reduceAdd, if_true, if_false, not_false_eq_true, not_true_eq_false]
/-- one side of the guns, at one ship -/
theorem t146_2 (S : Sg α n) {i j : Nat} (hi : i < n) (hj : j < n) (hij : j ≠ i) {m : Int32} {sh : Int32} (hb : (sh = -1 ∧ m = 0 ∧ ∀ y, y < 2 * n → ¬ 0 < Fsh α n i y) ∨ ∃ x, x < 2 * n ∧ sh = J x ∧ m = Fsh α n i x ∧ 0 < m ∧ (∀ y, y < 2 * n → ¬ m < Fsh α n i y) ∧ ∀ y, y < x → Fsh α n i y < m) (d : Int64) (c4 c5 c6 : Int32) (u12 u13 u14 : Option Value) {g : Nat} (hg : g < 2) : ∃ u12' u13', Run 146 253 [some (.ref (3)), some (.int (J i)), some (.long (d)), none, some (.int (c4)), some (.int (c5)), some (.int (c6)), some (.int (bi (0 < α (7 + i) 3))), some (.int (sh)), some (.int (m)), some (.int (J j)), some (.int (J g)), u12, u13, u14] [] (HC z α π β η o od) = Run 146 253 [some (.ref (3)), some (.int (J i)), some (.long (d)), none, some (.int (c4)), some (.int (c5)), some (.int (c6)), some (.int (bi (0 < α (7 + i) 3))), some (.int (sh)), some (.int (m)), some (.int (J j)), some (.int (J (g + 1))), u12', u13', u14] [] (HC z α π β η o od) := by
  have H := S.1
  have h8 := H.n8
  have hne : ¬ J j = J i := Jne (by omega) (by omega) hij
  have hij' : i ≠ j := fun w => hij w.symm
  have z20 : ¬ (2 : Int32) ≤ J g := by rw [show (2 : Int32) = J 2 from rfl, J_le (by omega) (by omega)]; omega
  have ey : ∃ y, y < 2 * n ∧ y = 2 * j + g := ⟨2 * j + g, by omega, rfl⟩
  obtain ⟨y, y1, y2⟩ := ey
  have fy : forceC α n i (J g) j = Fsh α n i y := by unfold Fsh; rw [show y % 2 = g by omega, show y / 2 = j by omega]
  have fb := force_bd H hi hj (J g)
  have n0 : ¬ forceC α n i (J g) j < 0 := by rw [i32_lt, ti0]; omega
  have nm : ¬ m < forceC α n i (J g) j := by
    rw [fy]
    rcases hb with ⟨-, b2, b3⟩ | ⟨x, -, -, -, -, b5, -⟩
    · rw [b2]; exact b3 y y1
    · exact b5 y y1
  have hr : J g = 0 ∨ J g = 1 := by rcases two_of hg with e | e <;> rw [e]; exact Or.inl rfl; exact Or.inr rfl
  have i2 := J_2t j (by omega)
  have tie : forceC α n i (J g) j = m → 0 < m → sh ≤ J y := fun e1 e2 => by
    rcases hb with ⟨-, b2, b3⟩ | ⟨x, x1, x2, x3, x4, x5, x6⟩
    · rw [b2] at e2; exact absurd e2 (by decide)
    · rw [x2, J_le (by omega) (by omega)]
      apply Classical.byContradiction
      intro w
      have := x6 y (by omega)
      rw [← fy, e1, i32_lt] at this
      omega
  have hg0 : g = 0 → ∃ u12' u13', Run 146 253 [some (.ref (3)), some (.int (J i)), some (.long (d)), none, some (.int (c4)), some (.int (c5)), some (.int (c6)), some (.int (bi (0 < α (7 + i) 3))), some (.int (sh)), some (.int (m)), some (.int (J j)), some (.int (J g)), u12, u13, u14] [] (HC z α π β η o od) = Run 146 253 [some (.ref (3)), some (.int (J i)), some (.long (d)), none, some (.int (c4)), some (.int (c5)), some (.int (c6)), some (.int (bi (0 < α (7 + i) 3))), some (.int (sh)), some (.int (m)), some (.int (J j)), some (.int (J (g + 1))), u12', u13', u14] [] (HC z α π β η o od) := fun eg => by
    subst eg
    have jg : J 0 = (0 : Int32) := rfl
    have jg1 : J (0 + 1) = (1 : Int32) := rfl
    rw [jg] at fy fb n0 nm z20 tie
    rw [jg, jg1]
    have ix : 2 * J j + 0 = J y := by rw [y2]; exact i2.1
    by_cases f0 : forceC α n i 0 j = 0
    · have p0 : forceC α n i 0 j ≤ 0 := by rw [f0]; decide
      have q144 : ¬ 144 < forceC α n i 0 j := by rw [f0]; decide
      refine ⟨some (.int (forceC α n i 0 j)), some (.int 1), ?_⟩
      rw [e146_253]
      by_cases w : forceC α n i 0 j = m
      · have m0 : m ≤ 0 := by rw [← w]; exact p0
        simp only [↓reduceIte, e146_255, e146_256, e146_259, e146_261, e146_262, e146_265, e146_266, e146_267, e146_269, e146_270, e146_273, e146_274, e146_277, e146_278, e146_280, e146_283, e146_285, e146_287, e146_290, e146_292, e146_295, e146_298, e146_300, e146_302, e146_305, e146_307, e146_310, e146_311, e146_312, e146_313, e146_316, e146_317, e146_319, e146_320, e146_323, e146_326, e146_327, e146_328, e146_329, e146_331, e146_332, e146_335, e146_338, e146_340, e146_343, e146_344, e146_346, e146_347, e146_350, e146_353, e146_355, e146_356, e146_357, e146_358, e146_360, e146_361, e146_364, e146_365, e146_368, e146_369, e146_372, e146_373, e146_375, e146_377, e146_380, e146_382, e146_385, e146_386, e146_387, e146_389, e146_392, e146_393, e146_396, e146_397, e146_399, e146_402, e146_405, e146_407, e146_409, e146_412, e146_414, e146_417, e146_418, e146_420, e146_421, e146_423, e146_424, e146_426, e146_429, e146_430, e146_431, e146_434, z20, hne, t132 H hi hj hij' (Or.inl rfl), n0, q144, nm, eq_true f0, p0, eq_true w, m0, i1_0, ln0_1, p50, p51, z11, z1p1, eq_self, aft_v, aft_n, Option.bind_some, rf_some, ck_i, ck_r, ck_n, nb0, nb1, nbi, Nat.reduceAdd, if_true, if_false, not_false_eq_true, not_true_eq_false]
      · simp only [↓reduceIte, e146_255, e146_256, e146_259, e146_261, e146_262, e146_265, e146_266, e146_267, e146_269, e146_270, e146_273, e146_274, e146_277, e146_278, e146_280, e146_283, e146_285, e146_287, e146_290, e146_292, e146_295, e146_298, e146_300, e146_302, e146_305, e146_307, e146_310, e146_311, e146_312, e146_313, e146_316, e146_317, e146_319, e146_320, e146_323, e146_326, e146_327, e146_328, e146_329, e146_331, e146_332, e146_335, e146_338, e146_340, e146_343, e146_344, e146_346, e146_347, e146_350, e146_353, e146_355, e146_356, e146_357, e146_358, e146_360, e146_361, e146_364, e146_365, e146_368, e146_369, e146_372, e146_373, e146_375, e146_377, e146_380, e146_382, e146_385, e146_386, e146_387, e146_389, e146_392, e146_393, e146_396, e146_397, e146_399, e146_402, e146_405, e146_407, e146_409, e146_412, e146_414, e146_417, e146_418, e146_420, e146_421, e146_423, e146_424, e146_426, e146_429, e146_430, e146_431, e146_434, z20, hne, t132 H hi hj hij' (Or.inl rfl), n0, q144, nm, eq_true f0, p0, eq_false w, i1_0, ln0_1, p50, p51, z11, z1p1, eq_self, aft_v, aft_n, Option.bind_some, rf_some, ck_i, ck_r, ck_n, nb0, nb1, nbi, Nat.reduceAdd, if_true, if_false, not_false_eq_true, not_true_eq_false]
    · have fp : 0 < forceC α n i 0 j := by rw [i32_eq, ti0] at f0; rw [i32_lt, ti0]; omega
      have np : ¬ forceC α n i 0 j ≤ 0 := by rw [le_not]; exact fun w => w fp
      obtain ⟨k1, k2, k3⟩ := force_ok S hi hj hij' fp
      have CF := canF_of fp
      have k2 : 0 < α (7 + i) 5 := k2
      have k3 : forceC α n i 0 j - forceC α n i 0 j / α (7 + i) 5 * α (7 + i) 5 = 0 := k3
      have g0 : ¬ α (7 + i) 5 ≤ 0 := by rw [le_not]; exact fun w => w k2
      have gz : ¬ α (7 + i) 5 = 0 := fun w => by rw [w] at k2; exact absurd k2 (by decide)
      have hn : ¬ α (7 + j) 3 ≤ 0 := by rw [le_not]; exact fun w => w CF.1.2.1
      have ot := force_other (r' := 1) fp (by decide)
      have up : bi (0 < α (7 + i) 3) = 1 := bi_t CF.1.1
      rw [up]
      refine ⟨some (.int (forceC α n i 0 j)), some (.int 1), ?_⟩
      rw [e146_253]
      by_cases w : forceC α n i 0 j = m
      · have mp : ¬ m ≤ 0 := by rw [← w]; exact np
        have ts := tie w (by rw [← w]; exact fp)
        simp only [↓reduceIte, e146_255, e146_256, e146_259, e146_261, e146_262, e146_265, e146_266, e146_267, e146_269, e146_270, e146_273, e146_274, e146_277, e146_278, e146_280, e146_283, e146_285, e146_287, e146_290, e146_292, e146_295, e146_298, e146_300, e146_302, e146_305, e146_307, e146_310, e146_311, e146_312, e146_313, e146_316, e146_317, e146_319, e146_320, e146_323, e146_326, e146_327, e146_328, e146_329, e146_331, e146_332, e146_335, e146_338, e146_340, e146_343, e146_344, e146_346, e146_347, e146_350, e146_353, e146_355, e146_356, e146_357, e146_358, e146_360, e146_361, e146_364, e146_365, e146_368, e146_369, e146_372, e146_373, e146_375, e146_377, e146_380, e146_382, e146_385, e146_386, e146_387, e146_389, e146_392, e146_393, e146_396, e146_397, e146_399, e146_402, e146_405, e146_407, e146_409, e146_412, e146_414, e146_417, e146_418, e146_420, e146_421, e146_423, e146_424, e146_426, e146_429, e146_430, e146_431, e146_434, z20, hne, t132 H hi hj hij' (Or.inl rfl), t132 H hi hj hij' (Or.inr rfl), n0, k1, nm, f0, np, t126_0 H hi, t126_0 H hj, CF.1.2.2, t126_5 H hi, g0, gz, k3, t126_3 H hj, hn, ot, eq_true w, mp, ix, ts, i1_0, ln0_1, p50, p51, z11, z1p1, eq_self, aft_v, aft_n, Option.bind_some, rf_some, ck_i, ck_r, ck_n, nb0, nb1, nbi, Nat.reduceAdd, if_true, if_false, not_false_eq_true, not_true_eq_false]
      · simp only [↓reduceIte, e146_255, e146_256, e146_259, e146_261, e146_262, e146_265, e146_266, e146_267, e146_269, e146_270, e146_273, e146_274, e146_277, e146_278, e146_280, e146_283, e146_285, e146_287, e146_290, e146_292, e146_295, e146_298, e146_300, e146_302, e146_305, e146_307, e146_310, e146_311, e146_312, e146_313, e146_316, e146_317, e146_319, e146_320, e146_323, e146_326, e146_327, e146_328, e146_329, e146_331, e146_332, e146_335, e146_338, e146_340, e146_343, e146_344, e146_346, e146_347, e146_350, e146_353, e146_355, e146_356, e146_357, e146_358, e146_360, e146_361, e146_364, e146_365, e146_368, e146_369, e146_372, e146_373, e146_375, e146_377, e146_380, e146_382, e146_385, e146_386, e146_387, e146_389, e146_392, e146_393, e146_396, e146_397, e146_399, e146_402, e146_405, e146_407, e146_409, e146_412, e146_414, e146_417, e146_418, e146_420, e146_421, e146_423, e146_424, e146_426, e146_429, e146_430, e146_431, e146_434, z20, hne, t132 H hi hj hij' (Or.inl rfl), t132 H hi hj hij' (Or.inr rfl), n0, k1, nm, f0, np, t126_0 H hi, t126_0 H hj, CF.1.2.2, t126_5 H hi, g0, gz, k3, t126_3 H hj, hn, ot, eq_false w, i1_0, ln0_1, p50, p51, z11, z1p1, eq_self, aft_v, aft_n, Option.bind_some, rf_some, ck_i, ck_r, ck_n, nb0, nb1, nbi, Nat.reduceAdd, if_true, if_false, not_false_eq_true, not_true_eq_false]
  have hg1 : g = 1 → ∃ u12' u13', Run 146 253 [some (.ref (3)), some (.int (J i)), some (.long (d)), none, some (.int (c4)), some (.int (c5)), some (.int (c6)), some (.int (bi (0 < α (7 + i) 3))), some (.int (sh)), some (.int (m)), some (.int (J j)), some (.int (J g)), u12, u13, u14] [] (HC z α π β η o od) = Run 146 253 [some (.ref (3)), some (.int (J i)), some (.long (d)), none, some (.int (c4)), some (.int (c5)), some (.int (c6)), some (.int (bi (0 < α (7 + i) 3))), some (.int (sh)), some (.int (m)), some (.int (J j)), some (.int (J (g + 1))), u12', u13', u14] [] (HC z α π β η o od) := fun eg => by
    subst eg
    have jg : J 1 = (1 : Int32) := rfl
    have jg1 : J (1 + 1) = (2 : Int32) := rfl
    rw [jg] at fy fb n0 nm z20 tie
    rw [jg, jg1]
    have ix : 2 * J j + 1 = J y := by rw [y2]; exact i2.2
    by_cases f0 : forceC α n i 1 j = 0
    · have p0 : forceC α n i 1 j ≤ 0 := by rw [f0]; decide
      have q144 : ¬ 144 < forceC α n i 1 j := by rw [f0]; decide
      refine ⟨some (.int (forceC α n i 1 j)), some (.int 1), ?_⟩
      rw [e146_253]
      by_cases w : forceC α n i 1 j = m
      · have m0 : m ≤ 0 := by rw [← w]; exact p0
        simp only [↓reduceIte, e146_255, e146_256, e146_259, e146_261, e146_262, e146_265, e146_266, e146_267, e146_269, e146_270, e146_273, e146_274, e146_277, e146_278, e146_280, e146_283, e146_285, e146_287, e146_290, e146_292, e146_295, e146_298, e146_300, e146_302, e146_305, e146_307, e146_310, e146_311, e146_312, e146_313, e146_316, e146_317, e146_319, e146_320, e146_323, e146_326, e146_327, e146_328, e146_329, e146_331, e146_332, e146_335, e146_338, e146_340, e146_343, e146_344, e146_346, e146_347, e146_350, e146_353, e146_355, e146_356, e146_357, e146_358, e146_360, e146_361, e146_364, e146_365, e146_368, e146_369, e146_372, e146_373, e146_375, e146_377, e146_380, e146_382, e146_385, e146_386, e146_387, e146_389, e146_392, e146_393, e146_396, e146_397, e146_399, e146_402, e146_405, e146_407, e146_409, e146_412, e146_414, e146_417, e146_418, e146_420, e146_421, e146_423, e146_424, e146_426, e146_429, e146_430, e146_431, e146_434, z20, hne, t132 H hi hj hij' (Or.inr rfl), n0, q144, nm, eq_true f0, p0, eq_true w, m0, i1_0, ln0_1, p50, p51, z11, z1p1, eq_self, aft_v, aft_n, Option.bind_some, rf_some, ck_i, ck_r, ck_n, nb0, nb1, nbi, Nat.reduceAdd, if_true, if_false, not_false_eq_true, not_true_eq_false]
      · simp only [↓reduceIte, e146_255, e146_256, e146_259, e146_261, e146_262, e146_265, e146_266, e146_267, e146_269, e146_270, e146_273, e146_274, e146_277, e146_278, e146_280, e146_283, e146_285, e146_287, e146_290, e146_292, e146_295, e146_298, e146_300, e146_302, e146_305, e146_307, e146_310, e146_311, e146_312, e146_313, e146_316, e146_317, e146_319, e146_320, e146_323, e146_326, e146_327, e146_328, e146_329, e146_331, e146_332, e146_335, e146_338, e146_340, e146_343, e146_344, e146_346, e146_347, e146_350, e146_353, e146_355, e146_356, e146_357, e146_358, e146_360, e146_361, e146_364, e146_365, e146_368, e146_369, e146_372, e146_373, e146_375, e146_377, e146_380, e146_382, e146_385, e146_386, e146_387, e146_389, e146_392, e146_393, e146_396, e146_397, e146_399, e146_402, e146_405, e146_407, e146_409, e146_412, e146_414, e146_417, e146_418, e146_420, e146_421, e146_423, e146_424, e146_426, e146_429, e146_430, e146_431, e146_434, z20, hne, t132 H hi hj hij' (Or.inr rfl), n0, q144, nm, eq_true f0, p0, eq_false w, i1_0, ln0_1, p50, p51, z11, z1p1, eq_self, aft_v, aft_n, Option.bind_some, rf_some, ck_i, ck_r, ck_n, nb0, nb1, nbi, Nat.reduceAdd, if_true, if_false, not_false_eq_true, not_true_eq_false]
    · have fp : 0 < forceC α n i 1 j := by rw [i32_eq, ti0] at f0; rw [i32_lt, ti0]; omega
      have np : ¬ forceC α n i 1 j ≤ 0 := by rw [le_not]; exact fun w => w fp
      obtain ⟨k1, k2, k3⟩ := force_ok S hi hj hij' fp
      have CF := canF_of fp
      have k2 : 0 < α (7 + i) 6 := k2
      have k3 : forceC α n i 1 j - forceC α n i 1 j / α (7 + i) 6 * α (7 + i) 6 = 0 := k3
      have g0 : ¬ α (7 + i) 6 ≤ 0 := by rw [le_not]; exact fun w => w k2
      have gz : ¬ α (7 + i) 6 = 0 := fun w => by rw [w] at k2; exact absurd k2 (by decide)
      have hn : ¬ α (7 + j) 3 ≤ 0 := by rw [le_not]; exact fun w => w CF.1.2.1
      have ot := force_other (r' := 0) fp (by decide)
      have up : bi (0 < α (7 + i) 3) = 1 := bi_t CF.1.1
      rw [up]
      refine ⟨some (.int (forceC α n i 1 j)), some (.int 1), ?_⟩
      rw [e146_253]
      by_cases w : forceC α n i 1 j = m
      · have mp : ¬ m ≤ 0 := by rw [← w]; exact np
        have ts := tie w (by rw [← w]; exact fp)
        simp only [↓reduceIte, e146_255, e146_256, e146_259, e146_261, e146_262, e146_265, e146_266, e146_267, e146_269, e146_270, e146_273, e146_274, e146_277, e146_278, e146_280, e146_283, e146_285, e146_287, e146_290, e146_292, e146_295, e146_298, e146_300, e146_302, e146_305, e146_307, e146_310, e146_311, e146_312, e146_313, e146_316, e146_317, e146_319, e146_320, e146_323, e146_326, e146_327, e146_328, e146_329, e146_331, e146_332, e146_335, e146_338, e146_340, e146_343, e146_344, e146_346, e146_347, e146_350, e146_353, e146_355, e146_356, e146_357, e146_358, e146_360, e146_361, e146_364, e146_365, e146_368, e146_369, e146_372, e146_373, e146_375, e146_377, e146_380, e146_382, e146_385, e146_386, e146_387, e146_389, e146_392, e146_393, e146_396, e146_397, e146_399, e146_402, e146_405, e146_407, e146_409, e146_412, e146_414, e146_417, e146_418, e146_420, e146_421, e146_423, e146_424, e146_426, e146_429, e146_430, e146_431, e146_434, z20, hne, t132 H hi hj hij' (Or.inr rfl), t132 H hi hj hij' (Or.inl rfl), n0, k1, nm, f0, np, t126_0 H hi, t126_0 H hj, CF.1.2.2, t126_6 H hi, g0, gz, k3, t126_3 H hj, hn, ot, eq_true w, mp, ix, ts, i1_0, ln0_1, p50, p51, z11, z1p1, eq_self, aft_v, aft_n, Option.bind_some, rf_some, ck_i, ck_r, ck_n, nb0, nb1, nbi, Nat.reduceAdd, if_true, if_false, not_false_eq_true, not_true_eq_false]
      · simp only [↓reduceIte, e146_255, e146_256, e146_259, e146_261, e146_262, e146_265, e146_266, e146_267, e146_269, e146_270, e146_273, e146_274, e146_277, e146_278, e146_280, e146_283, e146_285, e146_287, e146_290, e146_292, e146_295, e146_298, e146_300, e146_302, e146_305, e146_307, e146_310, e146_311, e146_312, e146_313, e146_316, e146_317, e146_319, e146_320, e146_323, e146_326, e146_327, e146_328, e146_329, e146_331, e146_332, e146_335, e146_338, e146_340, e146_343, e146_344, e146_346, e146_347, e146_350, e146_353, e146_355, e146_356, e146_357, e146_358, e146_360, e146_361, e146_364, e146_365, e146_368, e146_369, e146_372, e146_373, e146_375, e146_377, e146_380, e146_382, e146_385, e146_386, e146_387, e146_389, e146_392, e146_393, e146_396, e146_397, e146_399, e146_402, e146_405, e146_407, e146_409, e146_412, e146_414, e146_417, e146_418, e146_420, e146_421, e146_423, e146_424, e146_426, e146_429, e146_430, e146_431, e146_434, z20, hne, t132 H hi hj hij' (Or.inr rfl), t132 H hi hj hij' (Or.inl rfl), n0, k1, nm, f0, np, t126_0 H hi, t126_0 H hj, CF.1.2.2, t126_6 H hi, g0, gz, k3, t126_3 H hj, hn, ot, eq_false w, i1_0, ln0_1, p50, p51, z11, z1p1, eq_self, aft_v, aft_n, Option.bind_some, rf_some, ck_i, ck_r, ck_n, nb0, nb1, nbi, Nat.reduceAdd, if_true, if_false, not_false_eq_true, not_true_eq_false]
  rcases two_of hg with e | e
  · exact hg0 e
  · exact hg1 e
theorem t146_3 (S : Sg α n) {i : Nat} (hi : i < n) {m : Int32} {sh : Int32} (hb : (sh = -1 ∧ m = 0 ∧ ∀ y, y < 2 * n → ¬ 0 < Fsh α n i y) ∨ ∃ x, x < 2 * n ∧ sh = J x ∧ m = Fsh α n i x ∧ 0 < m ∧ (∀ y, y < 2 * n → ¬ m < Fsh α n i y) ∧ ∀ y, y < x → Fsh α n i y < m) (d : Int64) (c4 c5 c6 : Int32) (u14 : Option Value) : ∀ q j (u11 u12 u13 : Option Value), j + q = n → ∃ u11' u12' u13', Run 146 240 [some (.ref (3)), some (.int (J i)), some (.long (d)), none, some (.int (c4)), some (.int (c5)), some (.int (c6)), some (.int (bi (0 < α (7 + i) 3))), some (.int (sh)), some (.int (m)), some (.int (J j)), u11, u12, u13, u14] [] (HC z α π β η o od) = Run 146 443 [some (.ref (3)), some (.int (J i)), some (.long (d)), none, some (.int (c4)), some (.int (c5)), some (.int (c6)), some (.int (bi (0 < α (7 + i) 3))), some (.int (sh)), some (.int (m)), some (.int (J n)), u11', u12', u13', u14] [] (HC z α π β η o od) := by
  have H := S.1
  have h8 := H.n8
  intro q
  induction q with
  | zero =>
    intro j u11 u12 u13 hj
    have : j = n := by omega
    subst this
    exact ⟨u11, u12, u13, by simp only [↓reduceIte, e146_240, e146_242, e146_243, e146_244, e146_247, e146_250, e146_251, t125_5 H, H.hn, Int32.le_refl, aft_v, aft_n, Option.bind_some, rf_some, ck_i, ck_r, ck_n, nb0, nb1, nbi, Nat.reduceAdd, if_true, if_false, not_false_eq_true, not_true_eq_false]⟩
  | succ q ih =>
    intro j u11 u12 u13 hj
    have hj' : j < n := by omega
    have l0 : ¬ J n ≤ J j := by rw [J_le (by omega) (by omega)]; omega
    have w0 : Run 146 240 [some (.ref (3)), some (.int (J i)), some (.long (d)), none, some (.int (c4)), some (.int (c5)), some (.int (c6)), some (.int (bi (0 < α (7 + i) 3))), some (.int (sh)), some (.int (m)), some (.int (J j)), u11, u12, u13, u14] [] (HC z α π β η o od) = Run 146 253 [some (.ref (3)), some (.int (J i)), some (.long (d)), none, some (.int (c4)), some (.int (c5)), some (.int (c6)), some (.int (bi (0 < α (7 + i) 3))), some (.int (sh)), some (.int (m)), some (.int (J j)), some (.int (J 0)), u12, u13, u14] [] (HC z α π β η o od) := by
      simp only [↓reduceIte, e146_240, e146_242, e146_243, e146_244, e146_247, e146_250, e146_251, t125_5 H, H.hn, l0, show J 0 = (0 : Int32) from rfl, aft_v, aft_n, Option.bind_some, rf_some, ck_i, ck_r, ck_n, nb0, nb1, nbi, Nat.reduceAdd, if_true, if_false, not_false_eq_true, not_true_eq_false]
    rw [w0]
    by_cases e : j = i
    · subst e
      have wx : Run 146 253 [some (.ref (3)), some (.int (J j)), some (.long (d)), none, some (.int (c4)), some (.int (c5)), some (.int (c6)), some (.int (bi (0 < α (7 + j) 3))), some (.int (sh)), some (.int (m)), some (.int (J j)), some (.int (J 0)), u12, u13, u14] [] (HC z α π β η o od) = Run 146 240 [some (.ref (3)), some (.int (J j)), some (.long (d)), none, some (.int (c4)), some (.int (c5)), some (.int (c6)), some (.int (bi (0 < α (7 + j) 3))), some (.int (sh)), some (.int (m)), some (.int (J (j + 1))), some (.int (J 0)), u12, u13, u14] [] (HC z α π β η o od) := by
        have z20 : ¬ (2 : Int32) ≤ J 0 := by decide
        simp only [↓reduceIte, e146_253, e146_255, e146_256, e146_259, e146_261, e146_262, e146_437, e146_440, z20, J_succ, eq_self, aft_v, aft_n, Option.bind_some, rf_some, ck_i, ck_r, ck_n, nb0, nb1, nbi, Nat.reduceAdd, if_true, if_false, not_false_eq_true, not_true_eq_false]
      rw [wx]
      exact ih (j + 1) _ _ _ (by omega)
    · obtain ⟨a12, a13, w1⟩ := t146_2 (z := z) (π := π) (β := β) (η := η) (o := o) (od := od) S hi hj' e hb d c4 c5 c6 u12 u13 u14 (g := 0) (by decide)
      obtain ⟨b12, b13, w2⟩ := t146_2 (z := z) (π := π) (β := β) (η := η) (o := o) (od := od) S hi hj' e hb d c4 c5 c6 a12 a13 u14 (g := 1) (by decide)
      have wx : Run 146 253 [some (.ref (3)), some (.int (J i)), some (.long (d)), none, some (.int (c4)), some (.int (c5)), some (.int (c6)), some (.int (bi (0 < α (7 + i) 3))), some (.int (sh)), some (.int (m)), some (.int (J j)), some (.int (J 2)), b12, b13, u14] [] (HC z α π β η o od) = Run 146 240 [some (.ref (3)), some (.int (J i)), some (.long (d)), none, some (.int (c4)), some (.int (c5)), some (.int (c6)), some (.int (bi (0 < α (7 + i) 3))), some (.int (sh)), some (.int (m)), some (.int (J (j + 1))), some (.int (J 2)), b12, b13, u14] [] (HC z α π β η o od) := by
        have z20 : (2 : Int32) ≤ J 2 := by decide
        simp only [↓reduceIte, e146_253, e146_255, e146_256, e146_259, e146_261, e146_262, e146_437, e146_440, z20, J_succ, aft_v, aft_n, Option.bind_some, rf_some, ck_i, ck_r, ck_n, nb0, nb1, nbi, Nat.reduceAdd, if_true, if_false, not_false_eq_true, not_true_eq_false]
      rw [w1, w2, wx]
      exact ih (j + 1) _ _ _ (by omega)
end S97
