/-! the law's check 'thoughts': its end -/
theorem spd_cg {α α' : Mem} {a : Nat} (h3 : α' 4 3 = α 4 3) (h7 : α' a = α a) (h b : Nat) : spdC α' a h b = spdC α a h b := by unfold spdC; rw [h3, h7]
theorem PV_sq {α α1 : Mem} {n i x : Nat} (s : Sq α α1) (h8 : n ≤ 8) (hi : i < 8) {r : Int32} (h : PV α1 n i x r) : PV α n i x r := by
  have e7 := s (7 + i) (by omega) (by omega)
  rcases h with ⟨a, b⟩ | ⟨a, pF, b, b2⟩
  · rw [e7] at a; exact Or.inl ⟨a, b⟩
  · rw [e7] at a
    refine Or.inr ⟨a, pF, ?_, b2⟩
    have eph : phN α1 i = phN α i := by unfold phN; rw [e7]
    have ept : pts0 α1 i = pts0 α i := by unfold pts0 hdA; rw [e7]
    rw [eph, ept] at b
    exact (Phs_sq s h8 hi _ _ _).mp b
theorem Jn1 {a : Nat} (h : a < 2147483648) (h0 : 1 ≤ a) : ¬ J a ≤ 0 ∧ ¬ J a = 0 := by rw [i32_le, i32_eq, J_ti h, ti0]; omega
theorem J6le {a : Nat} (h : a < 6) : ¬ (6 : Int32) ≤ J a := by rw [show (6 : Int32) = J 6 from rfl, J_le (by omega) (by omega)]; omega
section S98
variable {z : Zr} {α β γ : Mem} {π : Nat → Nat} {η : Int64} {o : Nat → Int64} {od : Nat → UInt64} {n k : Nat}
/-- up to the chart's own cell -/
theorem t146_a (G : Gs α π n k) {i : Nat} (hi : i < n) {d : Int64} (hd : ∀ (z1 : Zr) (α1 : Mem), Fc α α1 → ∃ α2, Run 108 0 [some (.ref 3), none, none, none, none] [] (HC z1 α1 π β η o od) = some (.inl (some (.long d)), HC z1 α2 π β η o od) ∧ Fc α α2) : ∃ c6 u8 α4, Run 146 0 [some (.ref (3)), some (.int (J i)), none, none, none, none, none, none, none, none, none, none, none, none, none] [] (HC z α π β η o od) = Run 146 196 [some (.ref (3)), some (.int (J i)), some (.long (d)), none, some (.int (J (szN α))), some (.int (α (7 + i) 9)), some (.int (c6)), some (.int (bi (0 < α (7 + i) 3))), u8, none, none, none, none, none, none] [] (HC z α4 π β η o od) ∧ Fc α α4 := by
  have H := G.ok
  have h8 := H.n8
  have hs := H.sz
  obtain ⟨pv, c1, c2, c3, c4, c5⟩ := chart G.1 hi
  obtain ⟨α1, e1, F1⟩ := hd z α (Fc_r α)
  have H1 := (Gs_fc G F1).ok
  have g4 : α1 4 = α 4 := Fc_sq F1 4 (by decide) (by decide)
  have g7 : α1 (7 + i) 9 = α (7 + i) 9 := by rw [Fc_sq F1 (7 + i) (by omega) (by omega)]
  have hs1 : α1 4 0 * α1 4 1 = J (szN α) := by rw [g4]; exact hs.1
  have w1 : Run 146 0 [some (.ref (3)), some (.int (J i)), none, none, none, none, none, none, none, none, none, none, none, none, none] [] (HC z α π β η o od) = Run 146 33 [some (.ref (3)), some (.int (J i)), some (.long (d)), none, some (.int (J (szN α))), some (.int (α (7 + i) 9)), some (.int (0)), some (.int (J 0)), none, none, none, none, none, none, none] [] (HC z α1 π β η o od) := by
    simp only [↓reduceIte, e146_0, e146_1, e146_4, e146_5, e146_6, e146_7, e146_10, e146_11, e146_12, e146_15, e146_16, e146_18, e146_19, e146_20, e146_22, e146_25, e146_27, e146_28, e146_30, e146_31, isO3, e1, t125_0 H1, t125_1 H1, hs1, t126_8 H1 hi, g7, show J 0 = (0 : Int32) from rfl, aft_v, aft_n, Option.bind_some, rf_some, ck_i, ck_r, ck_n, nb0, nb1, nbi, Nat.reduceAdd, if_true, if_false, not_false_eq_true, not_true_eq_false]
  obtain ⟨u', α2, w2, F2⟩ := t146_1 (z := z) (β := β) (η := η) (o := o) (od := od) G hi d c1 c2 (szN α) 0 0 none α1 (by omega) F1
  rw [w1, w2]
  have H2 := (Gs_fc G F2).ok
  have b3 : α2 (7 + i) 3 = α (7 + i) 3 := by rw [Fc_sq F2 (7 + i) (by omega) (by omega)]
  obtain ⟨α3, r, r3, F3', rv⟩ := t137 (z := z) (π := π) (β := β) (η := η) (o := o) (od := od) H2 hi
  have F3 := Fc_t F2 F3'
  rw [RV_sq (Fc_sq F2) h8 (by omega)] at rv
  have er := c3 r rv
  have H3 := (Gs_fc G F3).ok
  obtain ⟨m, m1, m2, m3⟩ := cnt_J (fun x => ¬ pv x = -1) (szN α) 0 0
  have m2 : cntF (fun x => ¬ pv x = -1) (szN α) 0 0 = J m := by rw [Nat.zero_add] at m2; exact m2
  rw [m2] at er ⊢
  by_cases ha : 0 < α (7 + i) 3
  · have hn : ¬ α (7 + i) 3 ≤ 0 := by rw [le_not]; exact fun w => w ha
    obtain ⟨x, hx, ex⟩ := cell_szN H (H.isC hi)
    have px : pv x = α (7 + i) 9 := by have := c4 ha; rw [ex, J_tn (by omega)] at this; exact this
    have p0 := H.pts i hi
    have m0 : 1 ≤ m := by
      rcases Nat.eq_zero_or_pos m with w | w
      · exact absurd (show ¬ pv x = -1 by rw [px, i32_eq, tim1]; omega) (m3.mp w x (Nat.zero_le _) (by omega))
      · exact w
    have jm := Jn1 (show m < 2147483648 by omega) m0
    have i3 : 0 < α3 (7 + i) 3 := by rw [Fc_sq F3 (7 + i) (by omega) (by omega)]; exact ha
    have o3 : α3 (7 + i) 1 = J x := by rw [Fc_sq F3 (7 + i) (by omega) (by omega)]; exact ex
    have cx : isCellC α3 4 (J x) := by rw [← o3]; exact H3.isC hi
    obtain ⟨α4, r', r4, F4', pv4⟩ := t138 (z := z) (π := π) (β := β) (η := η) (o := o) (od := od) H3 hi (show x < 144 by omega) cx
    have er' := c1 x r' (PV_sq (Fc_sq F3) h8 (by omega) pv4)
    rw [er', px] at r4
    have up : bi (0 < α (7 + i) 3) = 1 := bi_t ha
    refine ⟨J m, u', α4, ?_, Fc_t F3 F4'⟩
    rw [up]
    simp only [↓reduceIte, e146_132, e146_133, e146_134, e146_135, e146_138, e146_141, e146_142, e146_145, e146_146, e146_148, e146_150, e146_151, e146_152, e146_155, e146_158, e146_160, e146_162, e146_165, e146_166, e146_169, e146_170, e146_173, e146_175, e146_178, e146_179, e146_180, e146_181, e146_182, e146_183, e146_186, e146_189, e146_191, e146_194, e146_195, t126_3 H2 hi, b3, hn, r3, er, jm.1, i1_0, t126_1a H3 hi i3, o3, r4, eq_self, aft_v, aft_n, Option.bind_some, rf_some, ck_i, ck_r, ck_n, nb0, nb1, nbi, Nat.reduceAdd, if_true, if_false, not_false_eq_true, not_true_eq_false]
  · have hn : α (7 + i) 3 ≤ 0 := by rw [le_not]; exact ha
    have m0 : m = 0 := m3.mpr (fun c _ _ w => w (c5 ha c))
    rw [m0] at er ⊢
    have up : bi (0 < α (7 + i) 3) = 0 := bi_f ha
    refine ⟨J 0, u', α3, ?_, F3⟩
    rw [up]
    simp only [↓reduceIte, e146_132, e146_133, e146_134, e146_135, e146_138, e146_141, e146_142, e146_145, e146_146, e146_148, e146_150, e146_151, e146_152, e146_155, e146_158, e146_160, e146_162, e146_165, e146_166, e146_169, e146_170, e146_173, e146_175, e146_178, e146_179, e146_180, e146_181, e146_182, e146_183, e146_186, e146_189, e146_191, e146_194, e146_195, t126_3 H2 hi, b3, hn, r3, er, show J 0 = (0 : Int32) from rfl, Int32.le_refl, eq_self, aft_v, aft_n, Option.bind_some, rf_some, ck_i, ck_r, ck_n, nb0, nb1, nbi, Nat.reduceAdd, if_true, if_false, not_false_eq_true, not_true_eq_false]
/-- winds -/
theorem t146_c (G : Gs α π n k) {i : Nat} (hi : i < n) {d : Int64} (hd : ∃ α2, Run 108 0 [some (.ref 3), none, none, none, none] [] (HC z α π β η o od) = some (.inl (some (.long d)), HC z α2 π β η o od) ∧ Fc α α2) (c4 c5 c6 c7 : Int32) {m sh : Int32} (hb : (sh = -1 ∧ m = 0) ∨ (¬ sh = -1 ∧ ¬ m = 0)) (c10 : Int32) (u11 u12 u13 u14 : Option Value) : ∃ α' π' k', Run 146 443 [some (.ref (3)), some (.int (J i)), some (.long (d)), none, some (.int (c4)), some (.int (c5)), some (.int (c6)), some (.int (c7)), some (.int (sh)), some (.int (m)), some (.int (c10)), u11, u12, u13, u14] [] (HC z α π β η o od) = some (.inl (some (.int 1)), HC z α' π' β η o od) ∧ Gs α' π' n k' := by
  have H := G.ok
  have h8 := H.n8
  obtain ⟨α5, e5, F5⟩ := hd
  have G5 := Gs_fc G F5
  have H5 := G5.ok
  have w5 := H5.ws
  obtain ⟨s, s1, s2⟩ := J_rng (k := 4) w5.1 (by omega)
  have hw := fwF_lt (spdC α (7 + i) (hdA α (7 + i))) 5 1 0 (by decide) (by decide)
  have f00 : ∀ e, e < 1 → ¬ spdC α (7 + i) (hdA α (7 + i)) 0 < spdC α (7 + i) (hdA α (7 + i)) e := fun e he => by
    have h0 : e = 0 := by omega
    rw [h0, i32_lt]
    omega
  have fw := fw_ok (spdC α (7 + i) (hdA α (7 + i))) 5 1 0 f00
  have q140 := t140 (z := z) (π := π) (β := β) (η := η) (o := o) (od := od) H hi
  generalize fwF (spdC α (7 + i) (hdA α (7 + i))) 5 1 0 = w at hw fw q140
  have tr := (trn w hw).1
  obtain ⟨α6, π6, k6, r6, D6, v6, v65, v67⟩ := t123 (z := z) (β := β) (η := η) (o := o) (od := od) G5 hw s1
  have G6 := D6.g
  have H6 := G6.ok
  obtain ⟨α7, π7, k7, r7, D7, v7, v75, v77⟩ := t123 (z := z) (β := β) (η := η) (o := o) (od := od) G6 (show (w + 1) % 6 < 6 by omega) s1
  have H7 := D7.g.ok
  have v62 : α6 4 2 = J w := v6 2
  have v63 : α6 4 3 = J s := v6 3
  have v72 : α7 4 2 = J ((w + 1) % 6) := v7 2
  have v73 : α7 4 3 = J s := v7 3
  rw [v62] at r7
  have f7 : α5 (7 + i) = α (7 + i) := Fc_sq F5 (7 + i) (by omega) (by omega)
  have f4 : α5 4 = α 4 := Fc_sq F5 4 (by decide) (by decide)
  have g6 : α6 (7 + i) = α (7 + i) := by rw [v67 i (by omega), f7]
  have g7 : α7 (7 + i) = α (7 + i) := by rw [v77 i (by omega), g6]
  have x6 : spdC α6 (7 + i) (hdA α6 (7 + i)) (wdN α6) = spdC α (7 + i) (hdA α (7 + i)) w := by
    have a : wdN α6 = w := by unfold wdN; rw [v62]; exact J_tn (by omega)
    have b : hdA α6 (7 + i) = hdA α (7 + i) := by unfold hdA; rw [g6]
    rw [a, b]
    exact spd_cg (by rw [v63, ← s2, f4]) g6 _ _
  have x7 : spdC α7 (7 + i) (hdA α7 (7 + i)) (wdN α7) = spdC α (7 + i) (hdA α (7 + i)) ((w + 1) % 6) := by
    have a : wdN α7 = (w + 1) % 6 := by unfold wdN; rw [v72]; exact J_tn (by omega)
    have b : hdA α7 (7 + i) = hdA α (7 + i) := by unfold hdA; rw [g7]
    rw [a, b]
    exact spd_cg (by rw [v73, ← s2, f4]) g7 _ _
  have ns := fw ((w + 1) % 6) (by omega)
  obtain ⟨α8, q, hq, r8, q0, sm8, G8, sv8⟩ := t143u (z := z) (β := β) (η := η) (o := o) (od := od) G6 D7
  obtain ⟨sv1, sv2⟩ := sv8 D6.2.1 α5 n h8 D6.2.2.1
  obtain ⟨q', hq'⟩ : ∃ q', q = q' + 1 := ⟨q - 1, by omega⟩
  subst hq'
  obtain ⟨α9, r9, sm9, G9, -⟩ := t143 (z := z) (β := β) (η := η) (o := o) (od := od) G8.2 G5.1 sv2
  have q9 : ¬ J q' < 0 := Jnn (by have := G8.h4; omega)
  have H9 := G9.ok
  have v9 : α9 4 2 = α5 4 2 := sm9.1 2 (by decide)
  have wn := Jnn (show w < 2147483648 by omega)
  have w6 := J6le hw
  refine ⟨α9, π7, q', ?_, G9⟩
  rcases hb with ⟨b1, b2⟩ | ⟨b1, b2⟩
  · subst b1; subst b2
    simp only [↓reduceIte, e146_443, e146_444, e146_445, e146_448, e146_450, e146_452, e146_453, e146_456, e146_457, e146_460, e146_461, e146_463, e146_466, e146_467, e146_470, e146_471, e146_474, e146_475, e146_478, e146_479, e146_480, e146_483, e146_485, e146_488, e146_490, e146_492, e146_495, e146_496, e146_499, e146_500, e146_502, e146_503, e146_504, e146_507, e146_509, e146_510, e146_511, e146_514, e146_516, e146_518, e146_521, e146_522, e146_524, e146_526, e146_529, e146_531, e146_534, e146_535, e146_536, e146_537, e146_538, e146_540, e146_543, e146_545, e146_546, e146_548, e146_549, e146_550, e146_552, e146_553, e146_555, e146_558, e146_560, e146_563, e146_564, e146_565, e146_567, e146_570, e146_572, e146_575, e146_576, e146_579, e146_582, e146_583, e146_586, e146_589, e146_590, e146_591, e146_594, e146_596, e146_599, e146_600, e146_601, e146_602, q140, isO3, e5, lg_self, wn, w6, t125_2 H5, t125_3 H5, s2, i1_0, r6, t126_12 H6 hi, x6, z6, tr, r7, t126_12 H7 hi, x7, ns, r8, q0, r9, q9, t125_2 H9, v9, eq_self, aft_v, aft_n, Option.bind_some, rf_some, ck_i, ck_r, ck_n, nb0, nb1, nbi, Nat.reduceAdd, if_true, if_false, not_false_eq_true, not_true_eq_false]
  · simp only [↓reduceIte, e146_443, e146_444, e146_445, e146_448, e146_450, e146_452, e146_453, e146_456, e146_457, e146_460, e146_461, e146_463, e146_466, e146_467, e146_470, e146_471, e146_474, e146_475, e146_478, e146_479, e146_480, e146_483, e146_485, e146_488, e146_490, e146_492, e146_495, e146_496, e146_499, e146_500, e146_502, e146_503, e146_504, e146_507, e146_509, e146_510, e146_511, e146_514, e146_516, e146_518, e146_521, e146_522, e146_524, e146_526, e146_529, e146_531, e146_534, e146_535, e146_536, e146_537, e146_538, e146_540, e146_543, e146_545, e146_546, e146_548, e146_549, e146_550, e146_552, e146_553, e146_555, e146_558, e146_560, e146_563, e146_564, e146_565, e146_567, e146_570, e146_572, e146_575, e146_576, e146_579, e146_582, e146_583, e146_586, e146_589, e146_590, e146_591, e146_594, e146_596, e146_599, e146_600, e146_601, e146_602, q140, isO3, e5, lg_self, wn, w6, t125_2 H5, t125_3 H5, s2, i1_0, r6, t126_12 H6 hi, x6, z6, tr, r7, t126_12 H7 hi, x7, ns, r8, q0, r9, q9, t125_2 H9, v9, b1, b2, eq_self, aft_v, aft_n, Option.bind_some, rf_some, ck_i, ck_r, ck_n, nb0, nb1, nbi, Nat.reduceAdd, if_true, if_false, not_false_eq_true, not_true_eq_false]
theorem t146 (G : Gs α π n k) {i : Nat} (hi : i < n) : ∃ z' α' π' k', Run 146 0 [some (.ref (3)), some (.int (J i)), none, none, none, none, none, none, none, none, none, none, none, none, none] [] (HC z α π β η o od) = some (.inl (some (.int 1)), HC z' α' π' β η o od) ∧ Zk z z' 0 ∧ Gs α' π' n k' := by
  obtain ⟨d, hd⟩ := t108 (β := β) (η := η) (o := o) (od := od) G
  obtain ⟨c6, u8, α4, w1, F4⟩ := t146_a (z := z) G hi hd
  have G4 := Gs_fc G F4
  have S4 := G4.1
  have H4 := G4.ok
  have h8 := H4.n8
  have e7 : α4 (7 + i) 3 = α (7 + i) 3 := by rw [Fc_sq F4 (7 + i) (by omega) (by omega)]
  have q139 := t139 (z := z) (π := π) (β := β) (η := η) (o := o) (od := od) H4 hi
  have bo := best_ok (α := α4) (n := n) (i := i) h8
  generalize bsL α4 n i n 0 (-1, 0) = b at q139 bo
  have hx : ∃ sh m : Int32, Run 146 196 [some (.ref (3)), some (.int (J i)), some (.long (d)), none, some (.int (J (szN α))), some (.int (α (7 + i) 9)), some (.int (c6)), some (.int (bi (0 < α (7 + i) 3))), u8, none, none, none, none, none, none] [] (HC z α4 π β η o od) = Run 146 237 [some (.ref (3)), some (.int (J i)), some (.long (d)), none, some (.int (J (szN α))), some (.int (α (7 + i) 9)), some (.int (c6)), some (.int (bi (0 < α4 (7 + i) 3))), some (.int (sh)), some (.int (m)), none, none, none, none, none] [] (HC z α4 π β η o od) ∧ ((sh = -1 ∧ m = 0 ∧ ∀ y, y < 2 * n → ¬ 0 < Fsh α4 n i y) ∨ ∃ x, x < 2 * n ∧ sh = J x ∧ m = Fsh α4 n i x ∧ 0 < m ∧ (∀ y, y < 2 * n → ¬ m < Fsh α4 n i y) ∧ ∀ y, y < x → Fsh α4 n i y < m) := by
    rcases bo with ⟨b1, b2⟩ | ⟨x, b1, b2, b3, b4, b5, b6⟩
    · rw [b1] at q139
      have q139 : Run 139 0 [some (.ref (3)), some (.int (J i)), none] [] (HC z α4 π β η o od) = some (.inl (some (.int (-1))), (HC z α4 π β η o od)) := q139
      refine ⟨-1, 0, ?_, Or.inl ⟨rfl, rfl, b2⟩⟩
      rw [e7]
      simp only [↓reduceIte, e146_196, e146_197, e146_198, e146_201, e146_203, e146_205, e146_206, e146_209, e146_210, e146_213, e146_214, e146_215, e146_217, e146_218, e146_219, e146_220, e146_223, e146_224, e146_227, e146_228, e146_230, e146_231, e146_232, e146_235, q139, eq_self, aft_v, aft_n, Option.bind_some, rf_some, ck_i, ck_r, ck_n, nb0, nb1, nbi, Nat.reduceAdd, if_true, if_false, not_false_eq_true, not_true_eq_false]
    · rw [b3] at b4
      have hne : i ≠ x / 2 := fun w => by
        unfold Fsh at b4
        rw [← w, force_self] at b4
        exact absurd b4 (by decide)
      have hf := t132 (z := z) (π := π) (β := β) (η := η) (o := o) (od := od) H4 hi (show x / 2 < n by omega) hne (J_two x (by omega))
      have hf : Run 132 0 [some (.ref (3)), some (.int (J i)), some (.int (J (x % 2))), some (.int (J (x / 2))), none] [] (HC z α4 π β η o od) = some (.inl (some (.int (Fsh α4 n i x))), (HC z α4 π β η o od)) := hf
      obtain ⟨jh1, jh2⟩ := J_half x (by omega)
      have nx : ¬ J x = -1 := Jm1 (by omega)
      rw [b2] at q139
      rw [b3] at b5 b6
      refine ⟨J x, Fsh α4 n i x, ?_, Or.inr ⟨x, b1, rfl, rfl, b4, b5, b6⟩⟩
      rw [e7]
      rcases two_of (show x % 2 < 2 by omega) with e | e
      · rw [e] at jh2 hf
        have jh2 : J x - J x / 2 * 2 = 0 := jh2
        have hf : Run 132 0 [some (.ref (3)), some (.int (J i)), some (.int (0)), some (.int (J (x / 2))), none] [] (HC z α4 π β η o od) = some (.inl (some (.int (Fsh α4 n i x))), (HC z α4 π β η o od)) := hf
        rw [jh1] at jh2
        simp only [↓reduceIte, e146_196, e146_197, e146_198, e146_201, e146_203, e146_205, e146_206, e146_209, e146_210, e146_213, e146_214, e146_215, e146_217, e146_218, e146_219, e146_220, e146_223, e146_224, e146_227, e146_228, e146_230, e146_231, e146_232, e146_235, q139, nx, zz2, jh1, jh2, ln0_1, hf, aft_v, aft_n, Option.bind_some, rf_some, ck_i, ck_r, ck_n, nb0, nb1, nbi, Nat.reduceAdd, if_true, if_false, not_false_eq_true, not_true_eq_false]
      · rw [e] at jh2 hf
        have jh2 : J x - J x / 2 * 2 = 1 := jh2
        have hf : Run 132 0 [some (.ref (3)), some (.int (J i)), some (.int (1)), some (.int (J (x / 2))), none] [] (HC z α4 π β η o od) = some (.inl (some (.int (Fsh α4 n i x))), (HC z α4 π β η o od)) := hf
        rw [jh1] at jh2
        simp only [↓reduceIte, e146_196, e146_197, e146_198, e146_201, e146_203, e146_205, e146_206, e146_209, e146_210, e146_213, e146_214, e146_215, e146_217, e146_218, e146_219, e146_220, e146_223, e146_224, e146_227, e146_228, e146_230, e146_231, e146_232, e146_235, q139, nx, zz2, jh1, jh2, hf, eq_self, aft_v, aft_n, Option.bind_some, rf_some, ck_i, ck_r, ck_n, nb0, nb1, nbi, Nat.reduceAdd, if_true, if_false, not_false_eq_true, not_true_eq_false]
  obtain ⟨sh, m, w2, hb⟩ := hx
  have w3 : Run 146 237 [some (.ref (3)), some (.int (J i)), some (.long (d)), none, some (.int (J (szN α))), some (.int (α (7 + i) 9)), some (.int (c6)), some (.int (bi (0 < α4 (7 + i) 3))), some (.int (sh)), some (.int (m)), none, none, none, none, none] [] (HC z α4 π β η o od) = Run 146 240 [some (.ref (3)), some (.int (J i)), some (.long (d)), none, some (.int (J (szN α))), some (.int (α (7 + i) 9)), some (.int (c6)), some (.int (bi (0 < α4 (7 + i) 3))), some (.int (sh)), some (.int (m)), some (.int (J 0)), none, none, none, none] [] (HC z α4 π β η o od) := by
    simp only [e146_237, e146_238, show J 0 = (0 : Int32) from rfl, aft_v, aft_n, Option.bind_some, rf_some, ck_i, ck_r, ck_n, nb0, nb1, nbi, Nat.reduceAdd, if_true, if_false, not_false_eq_true, not_true_eq_false]
  obtain ⟨u11, u12, u13, w4⟩ := t146_3 (z := z) (π := π) (β := β) (η := η) (o := o) (od := od) S4 hi hb d (J (szN α)) (α (7 + i) 9) c6 none n 0 none none none (by omega)
  have hb2 : (sh = -1 ∧ m = 0) ∨ (¬ sh = -1 ∧ ¬ m = 0) := by
    rcases hb with ⟨b1, b2, -⟩ | ⟨x, x1, x2, x3, x4, -, -⟩
    · exact Or.inl ⟨b1, b2⟩
    · exact Or.inr ⟨by rw [x2]; exact Jm1 (by omega), fun w => by rw [w] at x4; exact absurd x4 (by decide)⟩
  obtain ⟨α5, e5, F5⟩ := hd z α4 F4
  have F45 : Fc α4 α5 := fun j hj => by rw [F5 j hj, F4 j hj]
  obtain ⟨α', π', k', w5, G'⟩ := t146_c (z := z) (β := β) (η := η) (o := o) (od := od) G4 hi ⟨α5, e5, F45⟩ (J (szN α)) (α (7 + i) 9) c6 (bi (0 < α4 (7 + i) 3)) hb2 (J n) u11 u12 u13 none
  exact ⟨z, α', π', k', by rw [w1, w2, w3, w4, w5], Zk_r z, G'⟩
end S98
