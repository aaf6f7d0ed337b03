/-! the law's check 'refuses' -/
theorem lg_self (x : Int64) : lg_cmp x x = 0 := by
  unfold lg_cmp
  rw [if_neg, if_pos rfl]
  exact fun w => absurd w (by simp)
/-- the room that at most q throws have taken -/
def Zk (z z' : Zr) (q : Nat) : Prop := z'.1 ≤ z.1 + q ∧ z'.2.1 ≤ z.2.1 + 6 * q ∧ z'.2.2 = z.2.2
theorem Zk_r (z : Zr) : Zk z z 0 := ⟨Nat.le_refl _, Nat.le_refl _, rfl⟩
theorem Zk_b {z z' : Zr} {q : Nat} (h : Zk z z' q) : Zk z (zb z') (q + 1) := ⟨by have := h.1; show z'.1 + 1 ≤ _; omega, by have := h.2.1; show z'.2.1 + 6 ≤ _; omega, h.2.2⟩
theorem Zk_t {a b c : Zr} {q r : Nat} (h : Zk a b q) (h2 : Zk b c r) : Zk a c (q + r) := ⟨by have := h.1; have := h2.1; omega, by have := h.2.1; have := h2.2.1; omega, h2.2.2.trans h.2.2⟩
theorem Zk_le {a b : Zr} {q r : Nat} (h : Zk a b q) (hq : q ≤ r) : Zk a b r := ⟨by have := h.1; omega, by have := h.2.1; omega, h.2.2⟩
theorem lot_z {z z' : Zr} {q : Nat} (h : Zk z z' q) (k : Nat) : lotV z' k = lotV z k := by unfold lotV; rw [h.2.2]
theorem Fc_sg {α α' : Mem} {n : Nat} (F : Fc α α') (S : Sg α n) : Sg α' n := Sg_sq (Fc_sq F) S
theorem Gs_fc {α α' : Mem} {π : Nat → Nat} {n k : Nat} (G : Gs α π n k) (F : Fc α α') : Gs α' π n k := ⟨Fc_sg F G.1, Hs_fs G.2 (Fs_fc F)⟩
theorem Sv_fc {α α' : Mem} {π : Nat → Nat} {n k j m : Nat} {α0 : Mem} (G : Gs α π n k) (hj : j < 4) (hm : m ≤ 8) (F : Fc α α') (h : Sv α π j α0 m) : Sv α' π j α0 m := Sv_fs G.hp hj hm (Fs_fc F) h
theorem foldM_cg (f g : Nat → Int32) : ∀ k i h, (∀ j, i ≤ j → j < i + k → f j = g j) → foldM f k i h = foldM g k i h := by
  intro k
  induction k with
  | zero => intro i h _; rfl
  | succ k ih => intro i h hq; rw [foldM, foldM, hq i (Nat.le_refl i) (by omega), ih _ _ (fun j h1 h2 => hq j (by omega) (by omega))]
theorem val_sq {α α1 : Mem} {n : Nat} (s : Sq α α1) (h8 : n ≤ 8) {w : Nat} (hw : w < 10) : valC α1 n w = valC α n w := by
  have e4 := s 4 (by decide) (by decide)
  have e5 := s 5 (by decide) (by decide)
  have hc : w = 0 ∨ w = 1 ∨ w = 2 ∨ w = 3 ∨ w = 4 ∨ w = 5 ∨ w = 6 ∨ w = 7 ∨ w = 8 ∨ w = 9 := by omega
  have e67 : ∀ sd : Int32, cntF (fun i => 0 < α1 (7 + i) 3 ∧ α1 (7 + i) 0 = sd) n 0 0 = cntF (fun i => 0 < α (7 + i) 3 ∧ α (7 + i) 0 = sd) n 0 0 := fun sd => cnt_cg (fun i => 0 < α (7 + i) 3 ∧ α (7 + i) 0 = sd) (fun i => 0 < α1 (7 + i) 3 ∧ α1 (7 + i) 0 = sd) n 0 0 (fun y _ hy => by rw [s (7 + y) (by omega) (by omega)])
  rcases hc with rfl | rfl | rfl | rfl | rfl | rfl | rfl | rfl | rfl | rfl
  · show α1 4 0 = α 4 0; rw [e4]
  · show α1 4 1 = α 4 1; rw [e4]
  · show α1 4 2 = α 4 2; rw [e4]
  · show α1 4 3 = α 4 3; rw [e4]
  · show α1 4 4 = α 4 4; rw [e4]
  · show α1 4 5 = α 4 5; rw [e4]
  · exact e67 0
  · exact e67 1
  · simp only [valC, rockC, isCellC, e4, e5]
  · simp only [valC, rockC, isCellC, e4, e5]
theorem foldS_sq {α α1 : Mem} (s : Sq α α1) (rv : Nat → Int32) : ∀ k i h, i + k ≤ 8 → foldS α1 rv k i h = foldS α rv k i h := by
  intro k
  induction k with
  | zero => intro i h _; rfl
  | succ k ih =>
    intro i h hi
    rw [foldS, foldS, foldM_cg (shpC α1 (7 + i) (hdA α1 (7 + i)) (wdN α1)) (shpC α (7 + i) (hdA α (7 + i)) (wdN α)) _ _ _ (fun w _ _ => by rw [hd_sq s (by omega), wd_sq s, shp_sq s (by omega)]), ih _ _ (by omega)]
theorem dig_sq {α α1 : Mem} {n : Nat} (s : Sq α α1) (h8 : n ≤ 8) (rv : Nat → Int32) (l k : Nat) : digC α1 n rv l k = digC α n rv l k := by
  unfold digC
  rw [foldM_cg (valC α1 n) (valC α n) _ _ _ (fun w _ hw => val_sq s h8 (by omega)), foldS_sq s rv n 0 _ (by omega), sz_sq s, foldM_cg (fun c => thingC α1 n (J c)) (fun c => thingC α n (J c)) _ _ _ (fun c _ _ => thing_sq s h8 (J c))]
theorem zz2 : ¬ (2 : Int32) = 0 := by decide
theorem zz12 : ¬ (12 : Int32) = 0 := by decide
theorem zz64 : ¬ (64 : Int32) = 0 := by decide
theorem zz768 : ¬ (768 : Int32) = 0 := by decide
theorem zz16 : ¬ (16 : Int32) = 0 := by decide
theorem zz12288 : ¬ (12288 : Int32) = 0 := by decide
section S88
variable {z : Zr} {α β γ : Mem} {π : Nat → Nat} {η : Int64} {o : Nat → Int64} {od : Nat → UInt64} {n k : Nat} {hh : Hp}
/-- the digest is a number of the sea, the text's length and the history's -/
theorem t108 (G : Gs α π n k) : ∃ d : Int64, ∀ (z1 : Zr) (α1 : Mem), Fc α α1 → ∃ α2, Run 108 0 [some (.ref 3), none, none, none, none] [] (HC z1 α1 π β η o od) = some (.inl (some (.long d)), HC z1 α2 π β η o od) ∧ Fc α α2 := by
  have H := G.ok
  have h8 := H.n8
  have hx : ∃ rv : Nat → Int32, ∀ i, i < n → RV α n i (rv i) := by
    have h : ∀ i, ∃ r, i < n → RV α n i r := fun i => by
      by_cases q : i < n
      · obtain ⟨α', r, -, -, f3⟩ := s1 (z := (0, 0, 0, fun _ => 0)) (β := β) (π := π) (η := η) (o := o) (od := od) H q
        exact ⟨r, fun _ => f3⟩
      · exact ⟨0, fun w => absurd w q⟩
    exact ⟨fun i => (h i).choose, fun i hi => (h i).choose_spec hi⟩
  obtain ⟨rv, hrv⟩ := hx
  refine ⟨digC α n rv 0 k, fun z1 α1 F => ?_⟩
  have G1 := Gs_fc G F
  obtain ⟨α2, a, F2⟩ := s108 (z := z1) (β := β) (π := π) (η := η) (o := o) (od := od) G1.ok (rv := rv) (fun i hi => by rw [RV_sq (Fc_sq F) h8 (by omega)]; exact hrv i hi) G1.2.1 G1.hk
  rw [dig_sq (Fc_sq F) h8] at a
  exact ⟨α2, a, Fc_t F F2⟩
theorem w124_ok (c s : Int32) {v : Int32} (h : Run 86 0 [some (.ref (3)), some (.int (s - s / 2 * 2)), some (.int (c)), some (.int (s / 2 - s / 2 / 6 * 6)), some (.int (s / 12 - s / 12 / 64 * 64)), some (.int (s / 768 - s / 768 / 16 * 16)), some (.int (s / 12288)), none, none] [] (HC z α π β η o od) = some (.inl (some (.int v)), hh)) : Run 124 0 [some (.ref (3)), some (.int (c)), some (.int (s)), none] [] (HC z α π β η o od) = some (.inl (some (.int v)), hh) := by
  simp only [↓reduceIte, e124_0, e124_1, e124_2, e124_3, e124_4, e124_5, e124_6, e124_7, e124_8, e124_10, e124_11, e124_12, e124_14, e124_15, e124_17, e124_18, e124_19, e124_22, e124_23, e124_25, e124_26, e124_27, e124_30, e124_31, e124_34, e124_36, e124_39, e124_41, e124_44, e124_46, e124_49, isO3, zz2, z6, zz12, zz64, zz768, zz16, zz12288, h, aft_v, aft_n, Option.bind_some, rf_some, ck_i, ck_r, ck_n, nb0, nb1, nbi, Nat.reduceAdd, if_true, if_false, not_false_eq_true, not_true_eq_false]
theorem w124_I (c s : Int32) (h : Run 86 0 [some (.ref (3)), some (.int (s - s / 2 * 2)), some (.int (c)), some (.int (s / 2 - s / 2 / 6 * 6)), some (.int (s / 12 - s / 12 / 64 * 64)), some (.int (s / 768 - s / 768 / 16 * 16)), some (.int (s / 12288)), none, none] [] (HC z α π β η o od) = some (.inr "java/lang/IndexOutOfBoundsException", hh)) : Run 124 0 [some (.ref (3)), some (.int (c)), some (.int (s)), none] [] (HC z α π β η o od) = some (.inl (some (.int (-903))), hh) := by
  have ax : ∀ (L : Lo) (S : List Value) (hq : Hp), L = [some (.ref 3), some (.int c), some (.int s), none] → aft 124 31 34 L S (.inr "java/lang/IndexOutOfBoundsException", hq) = Run 124 36 L [] hq := fun L S hq hL => aft_h 35 36 L (by decide +kernel) (by subst hL; rfl)
  simp only [↓reduceIte, e124_0, e124_1, e124_2, e124_3, e124_4, e124_5, e124_6, e124_7, e124_8, e124_10, e124_11, e124_12, e124_14, e124_15, e124_17, e124_18, e124_19, e124_22, e124_23, e124_25, e124_26, e124_27, e124_30, e124_31, e124_34, e124_36, e124_39, e124_41, e124_44, e124_46, e124_49, isO3, zz2, z6, zz12, zz64, zz768, zz16, zz12288, h, ax _ _ _ rfl, aft_v, aft_n, Option.bind_some, rf_some, ck_i, ck_r, ck_n, nb0, nb1, nbi, Nat.reduceAdd, if_true, if_false, not_false_eq_true, not_true_eq_false]
theorem w124_A (c s : Int32) (h : Run 86 0 [some (.ref (3)), some (.int (s - s / 2 * 2)), some (.int (c)), some (.int (s / 2 - s / 2 / 6 * 6)), some (.int (s / 12 - s / 12 / 64 * 64)), some (.int (s / 768 - s / 768 / 16 * 16)), some (.int (s / 12288)), none, none] [] (HC z α π β η o od) = some (.inr "java/lang/IllegalArgumentException", hh)) : Run 124 0 [some (.ref (3)), some (.int (c)), some (.int (s)), none] [] (HC z α π β η o od) = some (.inl (some (.int (-901))), hh) := by
  have ax : ∀ (L : Lo) (S : List Value) (hq : Hp), L = [some (.ref 3), some (.int c), some (.int s), none] → aft 124 31 34 L S (.inr "java/lang/IllegalArgumentException", hq) = Run 124 41 L [] hq := fun L S hq hL => aft_h 40 41 L (by decide +kernel) (by subst hL; rfl)
  simp only [↓reduceIte, e124_0, e124_1, e124_2, e124_3, e124_4, e124_5, e124_6, e124_7, e124_8, e124_10, e124_11, e124_12, e124_14, e124_15, e124_17, e124_18, e124_19, e124_22, e124_23, e124_25, e124_26, e124_27, e124_30, e124_31, e124_34, e124_36, e124_39, e124_41, e124_44, e124_46, e124_49, isO3, zz2, z6, zz12, zz64, zz768, zz16, zz12288, h, ax _ _ _ rfl, aft_v, aft_n, Option.bind_some, rf_some, ck_i, ck_r, ck_n, nb0, nb1, nbi, Nat.reduceAdd, if_true, if_false, not_false_eq_true, not_true_eq_false]
theorem w124_S (c s : Int32) (h : Run 86 0 [some (.ref (3)), some (.int (s - s / 2 * 2)), some (.int (c)), some (.int (s / 2 - s / 2 / 6 * 6)), some (.int (s / 12 - s / 12 / 64 * 64)), some (.int (s / 768 - s / 768 / 16 * 16)), some (.int (s / 12288)), none, none] [] (HC z α π β η o od) = some (.inr "java/lang/IllegalStateException", hh)) : Run 124 0 [some (.ref (3)), some (.int (c)), some (.int (s)), none] [] (HC z α π β η o od) = some (.inl (some (.int (-902))), hh) := by
  have ax : ∀ (L : Lo) (S : List Value) (hq : Hp), L = [some (.ref 3), some (.int c), some (.int s), none] → aft 124 31 34 L S (.inr "java/lang/IllegalStateException", hq) = Run 124 46 L [] hq := fun L S hq hL => aft_h 45 46 L (by decide +kernel) (by subst hL; rfl)
  simp only [↓reduceIte, e124_0, e124_1, e124_2, e124_3, e124_4, e124_5, e124_6, e124_7, e124_8, e124_10, e124_11, e124_12, e124_14, e124_15, e124_17, e124_18, e124_19, e124_22, e124_23, e124_25, e124_26, e124_27, e124_30, e124_31, e124_34, e124_36, e124_39, e124_41, e124_44, e124_46, e124_49, isO3, zz2, z6, zz12, zz64, zz768, zz16, zz12288, h, ax _ _ _ rfl, aft_v, aft_n, Option.bind_some, rf_some, ck_i, ck_r, ck_n, nb0, nb1, nbi, Nat.reduceAdd, if_true, if_false, not_false_eq_true, not_true_eq_false]
theorem t124_xa (H : Ok α n) : Run 124 0 [some (.ref (3)), some (.int (α 4 0 * α 4 1)), some (.int (0)), none] [] (HC z α π β η o od) = some (.inl (some (.int (-903))), HC (zb z) α π β η o od) := w124_I _ _ (s86n (nCell H))
theorem t124_xb : Run 124 0 [some (.ref (3)), some (.int (-1)), some (.int (0)), none] [] (HC z α π β η o od) = some (.inl (some (.int (-903))), HC (zb z) α π β η o od) := w124_I _ _ (s86n mCell)
theorem t124_xc (H : Ok α n) : Run 124 0 [some (.ref (3)), some (.int (0)), some (.int (13020)), none] [] (HC z α π β η o od) = some (.inl (some (.int (-901))), HC (zb z) α π β η o od) := w124_A _ _ (s86m (zCell H) (by decide))
theorem t124_xd (H : Ok α n) : Run 124 0 [some (.ref (3)), some (.int (0)), some (.int (749580)), none] [] (HC z α π β η o od) = some (.inl (some (.int (-901))), HC (zb z) α π β η o od) := w124_A _ _ (s86m (zCell H) (by decide))
theorem t124_xe (H : Ok α n) : Run 124 0 [some (.ref (3)), some (.int (0)), some (.int (12)), none] [] (HC z α π β η o od) = some (.inl (some (.int (-901))), HC (zb z) α π β η o od) := w124_A _ _ (s86m (zCell H) (by decide))
theorem dc901 : Op.cmpValue (FP.dcmp 13874508532486766592 13874508532486766592) .l = 0 := by decide +kernel
theorem t151 (G : Gs α π n k) : ∃ z' α', Run 151 0 [some (.ref (3)), none, none, none, none, none] [] (HC z α π β η o od) = some (.inl (some (.int 1)), HC z' α' π β η o od) ∧ Zk z z' 29 ∧ Fc α α' := by
  obtain ⟨d, hd⟩ := t108 (β := β) (η := η) (o := o) (od := od) G
  obtain ⟨α1, e1, F1⟩ := hd z α (Fc_r α)
  have H := (Gs_fc G F1).ok
  have hn := H.hn
  have w1 : Run 151 0 [some (.ref (3)), none, none, none, none, none] [] (HC z α π β η o od) = Run 151 24 [some (.ref (3)), some (.long (d)), none, some (.int (α1 4 0 * α1 4 1)), some (.int (J n)), none] [] (HC z α1 π β η o od) := by
    simp only [↓reduceIte, e151_0, e151_1, e151_4, e151_5, e151_6, e151_7, e151_10, e151_11, e151_12, e151_15, e151_16, e151_17, e151_18, e151_19, e151_22, isO3, e1, t125_0 H, t125_1 H, t125_5 H, hn, aft_v, aft_n, Option.bind_some, rf_some, ck_i, ck_r, ck_n, nb0, nb1, nbi, Nat.reduceAdd, if_true, if_false, not_false_eq_true, not_true_eq_false]
  have w2 : ∀ z : Zr, Run 151 24 [some (.ref (3)), some (.long (d)), none, some (.int (α1 4 0 * α1 4 1)), some (.int (J n)), none] [] (HC z α1 π β η o od) = Run 151 228 [some (.ref 3), some (.long d), none, some (.int (α1 4 0 * α1 4 1)), some (.int (J n)), some (.int 1)] [] (HC (zb (zb (zb (zb (zb (zb (zb (zb (zb (zb (zb (zb (zb (zb (zb (zb (z))))))))))))))))) α1 π β η o od) := fun z => by
    simp only [↓reduceIte, e151_24, e151_25, e151_26, e151_27, e151_30, e151_33, e151_36, e151_37, e151_38, e151_40, e151_43, e151_46, e151_49, e151_50, e151_51, e151_52, e151_55, e151_58, e151_61, e151_62, e151_63, e151_64, e151_67, e151_70, e151_73, e151_74, e151_75, e151_76, e151_79, e151_82, e151_85, e151_86, e151_87, e151_88, e151_91, e151_94, e151_97, e151_98, e151_99, e151_100, e151_103, e151_106, e151_109, e151_110, e151_111, e151_112, e151_115, e151_118, e151_121, e151_122, e151_123, e151_126, e151_129, e151_132, e151_135, e151_136, e151_137, e151_139, e151_142, e151_145, e151_148, e151_149, e151_150, e151_152, e151_155, e151_158, e151_161, e151_162, e151_163, e151_166, e151_169, e151_172, e151_173, e151_175, e151_177, e151_180, e151_183, e151_186, e151_187, e151_188, e151_191, e151_194, e151_197, e151_198, e151_199, e151_200, e151_203, e151_206, e151_209, e151_210, e151_211, e151_212, e151_215, e151_218, e151_221, e151_222, e151_225, e151_226, t121_xa, t121_xb, t122_xa H, t122_xb, t123_xa, t123_xb, t124_xa H, t124_xb, t124_xc H, t124_xd H, t124_xe H, t125_x, t126_x H, t127_x H, t128_x H, t129_x, eq_self, aft_v, aft_n, Option.bind_some, rf_some, ck_i, ck_r, ck_n, nb0, nb1, nbi, Nat.reduceAdd, if_true, if_false, not_false_eq_true, not_true_eq_false]
  have w3 : ∀ z : Zr, Run 151 228 [some (.ref (3)), some (.long (d)), none, some (.int (α1 4 0 * α1 4 1)), some (.int (J n)), some (.int (1))] [] (HC z α1 π β η o od) = Run 151 406 [some (.ref 3), some (.long d), none, some (.int (α1 4 0 * α1 4 1)), some (.int (J n)), some (.int 1)] [] (HC (zb (zb (zb (zb (zb (zb (zb (zb (zb (zb (zb (zb (zb (z)))))))))))))) α1 π β η o od) := fun z => by
    simp only [↓reduceIte, e151_228, e151_230, e151_233, e151_234, e151_236, e151_239, e151_242, e151_245, e151_246, e151_247, e151_248, e151_251, e151_254, e151_257, e151_258, e151_260, e151_261, e151_263, e151_266, e151_269, e151_272, e151_273, e151_275, e151_276, e151_278, e151_280, e151_283, e151_286, e151_289, e151_290, e151_292, e151_294, e151_297, e151_300, e151_303, e151_304, e151_306, e151_309, e151_312, e151_315, e151_316, e151_317, e151_320, e151_323, e151_326, e151_327, e151_329, e151_332, e151_335, e151_338, e151_339, e151_341, e151_342, e151_345, e151_348, e151_351, e151_352, e151_354, e151_357, e151_360, e151_363, e151_364, e151_365, e151_368, e151_371, e151_374, e151_375, e151_376, e151_379, e151_382, e151_383, e151_386, e151_387, e151_390, e151_393, e151_396, e151_399, e151_400, e151_403, e151_404, t130_x H, t131_x, t132_x H, t133_x H, t134_x H, t135_x H, t136_x, t137_x H, t138_x H, t139_x H, t140_x, t141_x, t142_x, dc901, eq_self, i1_0, aft_v, aft_n, Option.bind_some, rf_some, ck_i, ck_r, ck_n, nb0, nb1, nbi, Nat.reduceAdd, if_true, if_false, not_false_eq_true, not_true_eq_false]
  rw [w1, w2, w3]
  obtain ⟨α2, e2, F2⟩ := hd (zb (zb (zb (zb (zb (zb (zb (zb (zb (zb (zb (zb (zb (zb (zb (zb (zb (zb (zb (zb (zb (zb (zb (zb (zb (zb (zb (zb (zb (z)))))))))))))))))))))))))))))) α1 F1
  refine ⟨zb (zb (zb (zb (zb (zb (zb (zb (zb (zb (zb (zb (zb (zb (zb (zb (zb (zb (zb (zb (zb (zb (zb (zb (zb (zb (zb (zb (zb (z))))))))))))))))))))))))))))), α2, ?_, ?_, F2⟩
  · simp only [↓reduceIte, e151_406, e151_408, e151_411, e151_412, e151_415, e151_416, e151_417, e151_420, e151_421, e151_424, e151_425, isO3, e2, lg_self, i1_0, eq_self, aft_v, aft_n, Option.bind_some, rf_some, ck_i, ck_r, ck_n, nb0, nb1, nbi, Nat.reduceAdd, if_true, if_false, not_false_eq_true, not_true_eq_false]
  · exact Zk_b (Zk_b (Zk_b (Zk_b (Zk_b (Zk_b (Zk_b (Zk_b (Zk_b (Zk_b (Zk_b (Zk_b (Zk_b (Zk_b (Zk_b (Zk_b (Zk_b (Zk_b (Zk_b (Zk_b (Zk_b (Zk_b (Zk_b (Zk_b (Zk_b (Zk_b (Zk_b (Zk_b (Zk_b (Zk_r z)))))))))))))))))))))))))))))
end S88
