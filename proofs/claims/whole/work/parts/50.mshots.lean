/-! the model: shots, boarding -/
theorem mn_comm (x y : Int32) : mnC x y = mnC y x := by
  rw [i32_eq, mn_ti, mn_ti]
  (repeat' split) <;> omega
theorem arc_rng (h s : Int32) : arcC h s = -1 ∨ arcC h s = 0 ∨ arcC h s = 1 := by
  unfold arcC
  (repeat' split) <;> simp
theorem up2_cm (α : Mem) {a k b m : Nat} (h : a ≠ b ∨ k ≠ m) (v w : Int32) : up2 (up2 α a k v) b m w = up2 (up2 α b m w) a k v := by
  funext j q
  by_cases h1 : j = a
  · subst h1
    by_cases h2 : j = b
    · subst h2
      simp only [up2_a]
      by_cases w1 : q = m
      · subst w1
        rw [if_pos rfl, if_neg (by omega), if_pos rfl]
      · rw [if_neg w1]
        split <;> first | rfl | (rw [if_neg w1])
    · rw [up2_ne _ h2, up2_a, up2_a, up2_ne _ h2]
  · by_cases h2 : j = b
    · subst h2
      rw [up2_a, up2_ne _ h1, up2_ne _ h1, up2_a]
    · rw [up2_ne _ h2, up2_ne _ h1, up2_ne _ h1, up2_ne _ h2]
theorem m10 : ¬ (-1 : Int32) = 0 := by decide
theorem m11 : ¬ (-1 : Int32) = 1 := by decide
theorem l0m : ((0 : Int32) = -1) = False := eq_false (by decide)
theorem l1m : ((1 : Int32) = -1) = False := eq_false (by decide)
theorem q12 : ¬ (12 : Int32) = 0 := by decide
theorem q4' : ¬ (4 : Int32) = 0 := by decide
theorem q5' : ¬ (5 : Int32) = 0 := by decide
section S50
variable {z : Zr} {α β γ : Mem} {π : Nat → Nat} {η : Int64} {o : Nat → Int64} {od : Nat → UInt64} {n k : Nat}
/-- behind the wait's write -/
theorem s175_w (H0 : Ok α n) (R1 : Rm (β 71) α n) {i j : Nat} (hi : i < n) (hj : j < n) (hne : ¬ α (7 + j) 1 = α (7 + i) 1) {f : Int32} (hf : 0 ≤ f.toInt) (g aim : Int32) (hna : aim = 0 ∨ aim = 1 ∨ aim = 2) (u6 u7 u8 : Option Value) : ∃ β', Run 175 42 [some (.ref (70)), some (.int (J i)), some (.int (g)), some (.int (J j)), some (.int (aim)), some (.int (f)), u6, u7, u8] [] (HC z γ π β η o od) = some (.inl (some (.int ((if aim = 0 then (hitC α i j f, hitL α j f) else if aim = 1 then (up2 α (7 + j) 4 (α (7 + j) 4 - mnC (α (7 + j) 4) (f / 6)), mnC (α (7 + j) 4) (f / 6)) else (up2 α (7 + j) 7 (α (7 + j) 7 - mxC 0 (mnC (α (7 + j) 7 - 1) (f / 5))), mxC 0 (mnC (α (7 + j) 7 - 1) (f / 5)))).2))), (HC z γ π β' η o od)) ∧ Rm (β' 71) (if aim = 0 then (hitC α i j f, hitL α j f) else if aim = 1 then (up2 α (7 + j) 4 (α (7 + j) 4 - mnC (α (7 + j) 4) (f / 6)), mnC (α (7 + j) 4) (f / 6)) else (up2 α (7 + j) 7 (α (7 + j) 7 - mxC 0 (mnC (α (7 + j) 7 - 1) (f / 5))), mxC 0 (mnC (α (7 + j) 7 - 1) (f / 5)))).1 n ∧ Md β β' := by
  have h8 := H0.n8
  have hj8 : j < 8 := by omega
  rcases hna with rfl | rfl | rfl
  · simp only [↓reduceIte]
    have h4 := tidv hf 4 (by decide)
    have h12 := tidv hf 12 (by decide)
    have ha := s138 (z := z) (γ := γ) (π := π) (η := η) (o := o) (od := od) H0 R1 hj (H0.isC hi) (sg_ne H0 (H0.isC hj) (H0.isC hi) hne)
    have eL : ∀ v : Int32, v = α (7 + j) 3 → mnC (f / 4) (v - 0) = hitL α j f := fun v hv => by unfold hitL; rw [hv, Int32.sub_zero, mn_comm]
    have hgG : ∀ w : Int32, 0 ≤ w.toInt ∧ w.toInt ≤ 12 → w - mnC (f / 12) (w - 0) = mxC 0 (w - f / 12) := fun w hw => by
      have hfl := f.toInt_lt
      rw [Int32.sub_zero, i32_eq, mx_ti]
      by_cases q : w.toInt < (f / 12).toInt
      · have e1 : mnC (f / 12) w = w := by unfold mnC; rw [if_pos (by rw [i32_lt]; exact q)]
        have e2 := sub_ti (x := w) (y := f / 12) (by omega) (by omega)
        have e3 := sub_ti (x := w) (y := w) (by omega) (by omega)
        rw [e1, e2, e3, ti0, if_neg (by omega)]; omega
      · have e1 : mnC (f / 12) w = f / 12 := by unfold mnC; rw [if_neg (by rw [i32_lt]; exact q)]
        have e2 := sub_ti (x := w) (y := f / 12) (by omega) (by omega)
        rw [e1, e2, ti0]
        split <;> omega
    have hG : ∃ β2, Run 175 42 [some (.ref (70)), some (.int (J i)), some (.int (g)), some (.int (J j)), some (.int (0)), some (.int (f)), u6, u7, u8] [] (HC z γ π β η o od) = Run 175 120 [some (.ref (70)), some (.int (J i)), some (.int (g)), some (.int (J j)), some (.int (0)), some (.int (f)), some (.int (arcC (α (7 + j) 2) (sgC α (α (7 + j) 1) (α (7 + i) 1)))), some (.int (if arcC (α (7 + j) 2) (sgC α (α (7 + j) 1) (α (7 + i) 1)) = 0 then mnC (f / 12) (α (7 + j) 5 - 0) else if arcC (α (7 + j) 2) (sgC α (α (7 + j) 1) (α (7 + i) 1)) = 1 then mnC (f / 12) (α (7 + j) 6 - 0) else 0)), u8] [] (HC z γ π β2 η o od) ∧ Rm (β2 71) (hitG α i j f) n ∧ Md β β2 := by
      rcases arc_rng (α (7 + j) 2) (sgC α (α (7 + j) 1) (α (7 + i) 1)) with q | q | q
      · refine ⟨β, ?_, ?_, Md_r β⟩
        · rw [q] at ha ⊢
          simp only [↓reduceIte, e175_0, e175_1, e175_2, e175_3, e175_4, e175_7, e175_9, e175_10, e175_11, e175_13, e175_14, e175_15, e175_16, e175_17, e175_18, e175_20, e175_23, e175_24, e175_25, e175_26, e175_28, e175_31, e175_34, e175_35, e175_38, e175_39, e175_42, e175_44, e175_45, e175_48, e175_49, e175_50, e175_51, e175_53, e175_55, e175_56, e175_57, e175_60, e175_61, e175_63, e175_64, e175_67, e175_68, e175_69, e175_71, e175_73, e175_74, e175_75, e175_76, e175_79, e175_80, e175_81, e175_82, e175_83, e175_84, e175_85, e175_88, e175_91, e175_93, e175_95, e175_96, e175_99, e175_100, e175_103, e175_104, e175_105, e175_106, e175_108, e175_109, e175_111, e175_113, e175_114, e175_115, e175_118, e175_121, e175_122, e175_123, e175_125, e175_126, e175_127, e175_128, e175_131, e175_133, e175_134, e175_135, e175_138, e175_141, e175_142, e175_143, e175_146, e175_148, isO70, s125_1 R1 h8 hi, ha, ln0_1, ln0_2, m10, m11, aft_v, aft_n, Option.bind_some, rf_some, ck_i, ck_r, ck_n, nb0, nb1, nbi, Nat.reduceAdd, if_true, if_false, not_false_eq_true, not_true_eq_false]
        · unfold hitG; rw [q, if_neg m10, if_neg m11]; exact R1
      · have l5 : Run 173 0 [some (.ref (70)), some (.int (J j)), some (.int (5)), some (.int (f / 12)), some (.int (0)), none] [] (HC z γ π β η o od) = _ := s173 R1 h8 hj (w := 5) (by decide) (f / 12) 0
        have e5 : slM 5 = 5 := rfl
        rw [e5] at l5
        have R2 := Rm_up R1 hj8 (k := 5) (by decide) (mxC 0 (α (7 + j) 5 - f / 12))
        rw [e5, ← hgG _ (H0.gl j hj)] at R2
        refine ⟨_, ?_, ?_, Md_up (Md_r β) (6 + 15 * j + 5) (α (7 + j) 5 - mnC (f / 12) (α (7 + j) 5 - 0))⟩
        · rw [q] at ha ⊢
          simp only [↓reduceIte, e175_0, e175_1, e175_2, e175_3, e175_4, e175_7, e175_9, e175_10, e175_11, e175_13, e175_14, e175_15, e175_16, e175_17, e175_18, e175_20, e175_23, e175_24, e175_25, e175_26, e175_28, e175_31, e175_34, e175_35, e175_38, e175_39, e175_42, e175_44, e175_45, e175_48, e175_49, e175_50, e175_51, e175_53, e175_55, e175_56, e175_57, e175_60, e175_61, e175_63, e175_64, e175_67, e175_68, e175_69, e175_71, e175_73, e175_74, e175_75, e175_76, e175_79, e175_80, e175_81, e175_82, e175_83, e175_84, e175_85, e175_88, e175_91, e175_93, e175_95, e175_96, e175_99, e175_100, e175_103, e175_104, e175_105, e175_106, e175_108, e175_109, e175_111, e175_113, e175_114, e175_115, e175_118, e175_121, e175_122, e175_123, e175_125, e175_126, e175_127, e175_128, e175_131, e175_133, e175_134, e175_135, e175_138, e175_141, e175_142, e175_143, e175_146, e175_148, isO70, s125_1 R1 h8 hi, ha, ln0_1, ln0_2, l0m, i50, q12, l5, aft_v, aft_n, Option.bind_some, rf_some, ck_i, ck_r, ck_n, nb0, nb1, nbi, Nat.reduceAdd, if_true, if_false, not_false_eq_true, not_true_eq_false]
        · unfold hitG; rw [q, if_pos rfl, ← hgG _ (H0.gl j hj)]; exact R2
      · have l6 : Run 173 0 [some (.ref (70)), some (.int (J j)), some (.int (6)), some (.int (f / 12)), some (.int (0)), none] [] (HC z γ π β η o od) = _ := s173 R1 h8 hj (w := 6) (by decide) (f / 12) 0
        have e6 : slM 6 = 6 := rfl
        rw [e6] at l6
        have R2 := Rm_up R1 hj8 (k := 6) (by decide) (mxC 0 (α (7 + j) 6 - f / 12))
        rw [e6, ← hgG _ (H0.gr j hj)] at R2
        refine ⟨_, ?_, ?_, Md_up (Md_r β) (6 + 15 * j + 6) (α (7 + j) 6 - mnC (f / 12) (α (7 + j) 6 - 0))⟩
        · rw [q] at ha ⊢
          simp only [↓reduceIte, e175_0, e175_1, e175_2, e175_3, e175_4, e175_7, e175_9, e175_10, e175_11, e175_13, e175_14, e175_15, e175_16, e175_17, e175_18, e175_20, e175_23, e175_24, e175_25, e175_26, e175_28, e175_31, e175_34, e175_35, e175_38, e175_39, e175_42, e175_44, e175_45, e175_48, e175_49, e175_50, e175_51, e175_53, e175_55, e175_56, e175_57, e175_60, e175_61, e175_63, e175_64, e175_67, e175_68, e175_69, e175_71, e175_73, e175_74, e175_75, e175_76, e175_79, e175_80, e175_81, e175_82, e175_83, e175_84, e175_85, e175_88, e175_91, e175_93, e175_95, e175_96, e175_99, e175_100, e175_103, e175_104, e175_105, e175_106, e175_108, e175_109, e175_111, e175_113, e175_114, e175_115, e175_118, e175_121, e175_122, e175_123, e175_125, e175_126, e175_127, e175_128, e175_131, e175_133, e175_134, e175_135, e175_138, e175_141, e175_142, e175_143, e175_146, e175_148, isO70, s125_1 R1 h8 hi, ha, ln0_1, ln0_2, l1m, i1_0, i51, q12, l6, aft_v, aft_n, Option.bind_some, rf_some, ck_i, ck_r, ck_n, nb0, nb1, nbi, Nat.reduceAdd, if_true, if_false, not_false_eq_true, not_true_eq_false]
        · unfold hitG; rw [q, if_neg i1_0, if_pos rfl, ← hgG _ (H0.gr j hj)]; exact R2
    obtain ⟨β2, g1, g2, g3⟩ := hG
    have H2 := Ok_hitG H0 i hj hf
    have H3 := Ok_hitH H0 i hj hf
    have eg3 : hitG α i j f (7 + j) 3 = α (7 + j) 3 := by
      unfold hitG
      split
      · exact u5_3 ..
      split
      · exact u6_3 ..
      · rfl
    have l3 : Run 173 0 [some (.ref (70)), some (.int (J j)), some (.int (3)), some (.int (f / 4)), some (.int (0)), none] [] (HC z γ π β2 η o od) = _ := s173 g2 h8 hj (w := 3) (by decide) (f / 4) 0
    have e3 : slM 3 = 3 := rfl
    rw [e3, eL _ eg3, eg3] at l3
    have R3 : Rm (up2 β2 71 (6 + 15 * j + 3) (α (7 + j) 3 - hitL α j f) 71) (hitH α i j f) n := Rm_up g2 hj8 (k := 3) (by decide) _
    have eh3 : hitH α i j f (7 + j) 3 = α (7 + j) 3 - hitL α j f := up2_rr ..
    have s3 := s127 (z := z) (γ := γ) (π := π) (η := η) (o := o) (od := od) (β := up2 β2 71 (6 + 15 * j + 3) (α (7 + j) 3 - hitL α j f)) R3 h8 hj
    rw [eh3] at s3
    rw [g1]
    by_cases q : 0 < α (7 + j) 3 - hitL α j f
    · refine ⟨_, ?_, ?_, Md_tr g3 (Md_up (Md_r β2) (6 + 15 * j + 3) (α (7 + j) 3 - hitL α j f))⟩
      · rw [bi_t q] at s3
        simp only [↓reduceIte, e175_0, e175_1, e175_2, e175_3, e175_4, e175_7, e175_9, e175_10, e175_11, e175_13, e175_14, e175_15, e175_16, e175_17, e175_18, e175_20, e175_23, e175_24, e175_25, e175_26, e175_28, e175_31, e175_34, e175_35, e175_38, e175_39, e175_44, e175_45, e175_48, e175_49, e175_50, e175_51, e175_53, e175_55, e175_56, e175_57, e175_60, e175_61, e175_63, e175_64, e175_67, e175_68, e175_69, e175_71, e175_73, e175_74, e175_75, e175_76, e175_79, e175_80, e175_81, e175_82, e175_83, e175_84, e175_85, e175_88, e175_91, e175_93, e175_95, e175_96, e175_99, e175_100, e175_103, e175_104, e175_105, e175_106, e175_108, e175_109, e175_111, e175_113, e175_114, e175_115, e175_118, e175_120, e175_121, e175_122, e175_123, e175_125, e175_126, e175_127, e175_128, e175_131, e175_133, e175_134, e175_135, e175_138, e175_141, e175_142, e175_143, e175_146, e175_148, isO70, q4', l3, s3, i1_0, aft_v, aft_n, Option.bind_some, rf_some, ck_i, ck_r, ck_n, nb0, nb1, nbi, Nat.reduceAdd, if_true, if_false, not_false_eq_true, not_true_eq_false]
      · unfold hitC; rw [if_pos q]; exact R3
    · obtain ⟨β4, k1, k2, k3⟩ := s174 (z := z) (γ := γ) (π := π) (η := η) (o := o) (od := od) H3 R3 hj
      refine ⟨β4, ?_, ?_, Md_tr (Md_tr g3 (Md_up (Md_r β2) (6 + 15 * j + 3) (α (7 + j) 3 - hitL α j f))) k3⟩
      · rw [bi_f q] at s3
        simp only [↓reduceIte, e175_0, e175_1, e175_2, e175_3, e175_4, e175_7, e175_9, e175_10, e175_11, e175_13, e175_14, e175_15, e175_16, e175_17, e175_18, e175_20, e175_23, e175_24, e175_25, e175_26, e175_28, e175_31, e175_34, e175_35, e175_38, e175_39, e175_44, e175_45, e175_48, e175_49, e175_50, e175_51, e175_53, e175_55, e175_56, e175_57, e175_60, e175_61, e175_63, e175_64, e175_67, e175_68, e175_69, e175_71, e175_73, e175_74, e175_75, e175_76, e175_79, e175_80, e175_81, e175_82, e175_83, e175_84, e175_85, e175_88, e175_91, e175_93, e175_95, e175_96, e175_99, e175_100, e175_103, e175_104, e175_105, e175_106, e175_108, e175_109, e175_111, e175_113, e175_114, e175_115, e175_118, e175_120, e175_121, e175_122, e175_123, e175_125, e175_126, e175_127, e175_128, e175_131, e175_133, e175_134, e175_135, e175_138, e175_141, e175_142, e175_143, e175_146, e175_148, isO70, q4', l3, s3, k1, aft_v, aft_n, Option.bind_some, rf_some, ck_i, ck_r, ck_n, nb0, nb1, nbi, Nat.reduceAdd, if_true, if_false, not_false_eq_true, not_true_eq_false]
      · unfold hitC; rw [if_neg q]; exact k2
  · simp only [↓reduceIte, i1_0]
    have l4 : Run 173 0 [some (.ref (70)), some (.int (J j)), some (.int (4)), some (.int (f / 6)), some (.int (0)), none] [] (HC z γ π β η o od) = _ := s173 R1 h8 hj (w := 4) (by decide) (f / 6) 0
    have e4 : slM 4 = 4 := rfl
    rw [e4, Int32.sub_zero, mn_comm] at l4
    have R2 := Rm_up R1 hj8 (k := 4) (by decide) (α (7 + j) 4 - mnC (α (7 + j) 4) (f / 6))
    refine ⟨_, ?_, R2, Md_up (Md_r β) _ _⟩
    simp only [↓reduceIte, e175_0, e175_1, e175_2, e175_3, e175_4, e175_7, e175_9, e175_10, e175_11, e175_13, e175_14, e175_15, e175_16, e175_17, e175_18, e175_20, e175_23, e175_24, e175_25, e175_26, e175_28, e175_31, e175_34, e175_35, e175_38, e175_39, e175_44, e175_45, e175_48, e175_49, e175_50, e175_51, e175_53, e175_55, e175_56, e175_57, e175_60, e175_61, e175_63, e175_64, e175_67, e175_68, e175_69, e175_71, e175_73, e175_74, e175_75, e175_76, e175_79, e175_80, e175_81, e175_82, e175_83, e175_84, e175_85, e175_88, e175_91, e175_93, e175_95, e175_96, e175_99, e175_100, e175_103, e175_104, e175_105, e175_106, e175_108, e175_109, e175_111, e175_113, e175_114, e175_115, e175_118, e175_120, e175_121, e175_122, e175_123, e175_125, e175_126, e175_127, e175_128, e175_131, e175_133, e175_134, e175_135, e175_138, e175_141, e175_142, e175_143, e175_146, e175_148, e175_42, isO70, q6, l4, aft_v, aft_n, Option.bind_some, rf_some, ck_i, ck_r, ck_n, nb0, nb1, nbi, Nat.reduceAdd, if_true, if_false, not_false_eq_true, not_true_eq_false]
  · simp only [↓reduceIte, show ¬ (2 : Int32) = 0 by decide, show ¬ (2 : Int32) = 1 by decide]
    have l7 : Run 173 0 [some (.ref (70)), some (.int (J j)), some (.int (7)), some (.int (f / 5)), some (.int (1)), none] [] (HC z γ π β η o od) = _ := s173 R1 h8 hj (w := 7) (by decide) (f / 5) 1
    have e7 : slM 7 = 7 := rfl
    have hc := H0.crew j hj
    have h5 := tidv hf 5 (by decide)
    have e1 := sub_ti (x := α (7 + j) 7) (y := 1) (by rw [ti1]; omega) (by rw [ti1]; omega)
    rw [ti1] at e1
    have em : mnC (f / 5) (α (7 + j) 7 - 1) = mxC 0 (mnC (α (7 + j) 7 - 1) (f / 5)) := by
      rw [mn_comm (f / 5), i32_eq, mx_ti, mn_ti, ti0]
      (repeat' split) <;> omega
    rw [e7, em] at l7
    have R2 := Rm_up R1 hj8 (k := 7) (by decide) (α (7 + j) 7 - mxC 0 (mnC (α (7 + j) 7 - 1) (f / 5)))
    refine ⟨_, ?_, R2, Md_up (Md_r β) _ _⟩
    simp only [↓reduceIte, e175_0, e175_1, e175_2, e175_3, e175_4, e175_7, e175_9, e175_10, e175_11, e175_13, e175_14, e175_15, e175_16, e175_17, e175_18, e175_20, e175_23, e175_24, e175_25, e175_26, e175_28, e175_31, e175_34, e175_35, e175_38, e175_39, e175_44, e175_45, e175_48, e175_49, e175_50, e175_51, e175_53, e175_55, e175_56, e175_57, e175_60, e175_61, e175_63, e175_64, e175_67, e175_68, e175_69, e175_71, e175_73, e175_74, e175_75, e175_76, e175_79, e175_80, e175_81, e175_82, e175_83, e175_84, e175_85, e175_88, e175_91, e175_93, e175_95, e175_96, e175_99, e175_100, e175_103, e175_104, e175_105, e175_106, e175_108, e175_109, e175_111, e175_113, e175_114, e175_115, e175_118, e175_120, e175_121, e175_122, e175_123, e175_125, e175_126, e175_127, e175_128, e175_131, e175_133, e175_134, e175_135, e175_138, e175_141, e175_142, e175_143, e175_146, e175_148, e175_42, isO70, ln2_1, q5', l7, aft_v, aft_n, Option.bind_some, rf_some, ck_i, ck_r, ck_n, nb0, nb1, nbi, Nat.reduceAdd, if_true, if_false, not_false_eq_true, not_true_eq_false]
theorem s175 (H : Ok α n) (R : Rm (β 71) α n) (D : Dj α n) {i j : Nat} (hi : i < n) (hj : j < n) (hij : i ≠ j) {g : Int32} (hg : g = 0 ∨ g = 1) {aim : Int32} (hna : aim = 0 ∨ aim = 1 ∨ aim = 2) (hc : 0 < forceC α n i g j) : ∃ β', Run 175 0 [some (.ref (70)), some (.int (J i)), some (.int (g)), some (.int (J j)), some (.int (aim)), none, none, none, none] [] (HC z γ π β η o od) = some (.inl (some (.int ((shotC α n i g j aim).2))), (HC z γ π β' η o od)) ∧ Rm (β' 71) (shotC α n i g j aim).1 n ∧ Md β β' := by
  have h8 := H.n8
  have hi8 : i < 8 := by omega
  have hF := s169 (z := z) (γ := γ) (π := π) (η := η) (o := o) (od := od) H R D hi hj hij hg
  have hfb := (force_bd H hi hj g).1
  have hcan : canFC α n i g j := by
    by_cases q : canFC α n i g j
    · exact q
    · unfold forceC at hc; rw [if_neg q] at hc; exact absurd hc (by decide)
  have hne := D i j hi hj hij hcan.1.1 hcan.1.2.1
  have H0 := Ok_wait H i g
  have cell0 : ∀ m, up2 α (7 + i) (if g = 0 then 10 else 11) (waitC α (7 + i)) (7 + m) 1 = α (7 + m) 1 := fun m => by
    rw [up2_s, if_neg]
    rintro ⟨_, w⟩
    split at w <;> omega
  have ew : (if 2 * α (7 + i) 7 < α (7 + i) 8 then (2 : Int32) else 1) = waitC α (7 + i) := rfl
  rcases hg with rfl | rfl
  · simp only [↓reduceIte] at H0 cell0
    have R1 : Rm (up2 β 71 (6 + 15 * i + 9) (waitC α (7 + i)) 71) (up2 α (7 + i) 10 (waitC α (7 + i))) n := Rm_up R hi8 (k := 9) (by decide) _
    obtain ⟨β', k1, k2, k3⟩ := s175_w (z := z) (γ := γ) (π := π) (η := η) (o := o) (od := od) (β := up2 β 71 (6 + 15 * i + 9) (waitC α (7 + i))) H0 R1 hi hj (by rw [cell0, cell0]; exact fun w => hne w.symm) hfb 0 aim hna none none none
    refine ⟨β', ?_, ?_, Md_tr (Md_up (Md_r β) _ _) k3⟩
    · unfold shotC
      simp only [↓reduceIte]
      rw [← k1]
      by_cases q : 2 * α (7 + i) 7 < α (7 + i) 8
      · rw [if_pos q] at ew
        simp only [↓reduceIte, e175_0, e175_1, e175_2, e175_3, e175_4, e175_7, e175_9, e175_10, e175_11, e175_13, e175_14, e175_15, e175_16, e175_17, e175_18, e175_20, e175_23, e175_24, e175_25, e175_26, e175_28, e175_31, e175_34, e175_35, e175_38, e175_39, e175_44, e175_45, e175_48, e175_49, e175_50, e175_51, e175_53, e175_55, e175_56, e175_57, e175_60, e175_61, e175_63, e175_64, e175_67, e175_68, e175_69, e175_71, e175_73, e175_74, e175_75, e175_76, e175_79, e175_80, e175_81, e175_82, e175_83, e175_84, e175_85, e175_88, e175_91, e175_93, e175_95, e175_96, e175_99, e175_100, e175_103, e175_104, e175_105, e175_106, e175_108, e175_109, e175_111, e175_113, e175_114, e175_115, e175_118, e175_120, e175_121, e175_122, e175_123, e175_125, e175_126, e175_127, e175_128, e175_131, e175_133, e175_134, e175_135, e175_138, e175_141, e175_142, e175_143, e175_146, e175_148, isO70, hF, s125_7 R h8 hi, s125_12 R h8 hi, i90, q, ← ew, s126_9 hi8, aft_v, aft_n, Option.bind_some, rf_some, ck_i, ck_r, ck_n, nb0, nb1, nbi, Nat.reduceAdd, if_true, if_false, not_false_eq_true, not_true_eq_false]
      · rw [if_neg q] at ew
        simp only [↓reduceIte, e175_0, e175_1, e175_2, e175_3, e175_4, e175_7, e175_9, e175_10, e175_11, e175_13, e175_14, e175_15, e175_16, e175_17, e175_18, e175_20, e175_23, e175_24, e175_25, e175_26, e175_28, e175_31, e175_34, e175_35, e175_38, e175_39, e175_44, e175_45, e175_48, e175_49, e175_50, e175_51, e175_53, e175_55, e175_56, e175_57, e175_60, e175_61, e175_63, e175_64, e175_67, e175_68, e175_69, e175_71, e175_73, e175_74, e175_75, e175_76, e175_79, e175_80, e175_81, e175_82, e175_83, e175_84, e175_85, e175_88, e175_91, e175_93, e175_95, e175_96, e175_99, e175_100, e175_103, e175_104, e175_105, e175_106, e175_108, e175_109, e175_111, e175_113, e175_114, e175_115, e175_118, e175_120, e175_121, e175_122, e175_123, e175_125, e175_126, e175_127, e175_128, e175_131, e175_133, e175_134, e175_135, e175_138, e175_141, e175_142, e175_143, e175_146, e175_148, isO70, hF, s125_7 R h8 hi, s125_12 R h8 hi, i90, q, ← ew, s126_9 hi8, aft_v, aft_n, Option.bind_some, rf_some, ck_i, ck_r, ck_n, nb0, nb1, nbi, Nat.reduceAdd, if_true, if_false, not_false_eq_true, not_true_eq_false]
    · unfold shotC
      simp only [↓reduceIte]
      exact k2
  · simp only [↓reduceIte, i1_0] at H0 cell0
    have R1 : Rm (up2 β 71 (6 + 15 * i + 10) (waitC α (7 + i)) 71) (up2 α (7 + i) 11 (waitC α (7 + i))) n := Rm_up R hi8 (k := 10) (by decide) _
    obtain ⟨β', k1, k2, k3⟩ := s175_w (z := z) (γ := γ) (π := π) (η := η) (o := o) (od := od) (β := up2 β 71 (6 + 15 * i + 10) (waitC α (7 + i))) H0 R1 hi hj (by rw [cell0, cell0]; exact fun w => hne w.symm) hfb 1 aim hna none none none
    refine ⟨β', ?_, ?_, Md_tr (Md_up (Md_r β) _ _) k3⟩
    · unfold shotC
      simp only [↓reduceIte, i1_0]
      rw [← k1]
      by_cases q : 2 * α (7 + i) 7 < α (7 + i) 8
      · rw [if_pos q] at ew
        simp only [↓reduceIte, e175_0, e175_1, e175_2, e175_3, e175_4, e175_7, e175_9, e175_10, e175_11, e175_13, e175_14, e175_15, e175_16, e175_17, e175_18, e175_20, e175_23, e175_24, e175_25, e175_26, e175_28, e175_31, e175_34, e175_35, e175_38, e175_39, e175_44, e175_45, e175_48, e175_49, e175_50, e175_51, e175_53, e175_55, e175_56, e175_57, e175_60, e175_61, e175_63, e175_64, e175_67, e175_68, e175_69, e175_71, e175_73, e175_74, e175_75, e175_76, e175_79, e175_80, e175_81, e175_82, e175_83, e175_84, e175_85, e175_88, e175_91, e175_93, e175_95, e175_96, e175_99, e175_100, e175_103, e175_104, e175_105, e175_106, e175_108, e175_109, e175_111, e175_113, e175_114, e175_115, e175_118, e175_120, e175_121, e175_122, e175_123, e175_125, e175_126, e175_127, e175_128, e175_131, e175_133, e175_134, e175_135, e175_138, e175_141, e175_142, e175_143, e175_146, e175_148, isO70, hF, s125_7 R h8 hi, s125_12 R h8 hi, i91, q, ← ew, s126_10 hi8, aft_v, aft_n, Option.bind_some, rf_some, ck_i, ck_r, ck_n, nb0, nb1, nbi, Nat.reduceAdd, if_true, if_false, not_false_eq_true, not_true_eq_false]
      · rw [if_neg q] at ew
        simp only [↓reduceIte, e175_0, e175_1, e175_2, e175_3, e175_4, e175_7, e175_9, e175_10, e175_11, e175_13, e175_14, e175_15, e175_16, e175_17, e175_18, e175_20, e175_23, e175_24, e175_25, e175_26, e175_28, e175_31, e175_34, e175_35, e175_38, e175_39, e175_44, e175_45, e175_48, e175_49, e175_50, e175_51, e175_53, e175_55, e175_56, e175_57, e175_60, e175_61, e175_63, e175_64, e175_67, e175_68, e175_69, e175_71, e175_73, e175_74, e175_75, e175_76, e175_79, e175_80, e175_81, e175_82, e175_83, e175_84, e175_85, e175_88, e175_91, e175_93, e175_95, e175_96, e175_99, e175_100, e175_103, e175_104, e175_105, e175_106, e175_108, e175_109, e175_111, e175_113, e175_114, e175_115, e175_118, e175_120, e175_121, e175_122, e175_123, e175_125, e175_126, e175_127, e175_128, e175_131, e175_133, e175_134, e175_135, e175_138, e175_141, e175_142, e175_143, e175_146, e175_148, isO70, hF, s125_7 R h8 hi, s125_12 R h8 hi, i91, q, ← ew, s126_10 hi8, aft_v, aft_n, Option.bind_some, rf_some, ck_i, ck_r, ck_n, nb0, nb1, nbi, Nat.reduceAdd, if_true, if_false, not_false_eq_true, not_true_eq_false]
    · unfold shotC
      simp only [↓reduceIte, i1_0]
      exact k2
end S50
