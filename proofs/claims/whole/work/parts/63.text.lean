/-! orders: reading one, reading all -/
theorem l1_119 : ((101 : Int32) = 119) = False := eq_false (by decide)
section S63m
variable {z : Zr} {α β γ : Mem} {π : Nat → Nat} {η : Int64} {o : Nat → Int64} {od : Nat → UInt64} {n l k p : Nat} {tx : Nat → Int32}
theorem s200_x (T : Tp β l tx p) (hp : p + 3 ≤ 160) (h : byT tx l p = 101) : ∃ β', Run 200 0 [some (.ref (70)), none, none] [] (HC z γ π β η o od) = some (.inl (some (.int (bi (okT tx l p)))), (HC z γ π β' η o od)) ∧ Tp β' l tx (nxT tx l p) ∧ Mt β β' ∧ β' 70 8 = 101 := by
  have n119 : ¬ byT tx l p = 119 := by rw [h]; decide
  have T1 := Tp_up T (Or.inl rfl) (byT tx l p) (p' := p) (by omega)
  have T2 := Tp_up T1 (Or.inl rfl) (byT tx l p) (p' := p + 1) (by omega)
  have e0 := s199_0 (z := z) (γ := γ) (π := π) (η := η) (o := o) (od := od) T
  have e1 := s199_1 (z := z) (γ := γ) (π := π) (η := η) (o := o) (od := od) T1
  have hh := s197 (z := z) (γ := γ) (π := π) (η := η) (o := o) (od := od) T
  have hh1 := s197 (z := z) (γ := γ) (π := π) (η := η) (o := o) (od := od) T1
  have eo : okT tx l p = (byT tx l (p + 1) = 59) := by unfold okT; rw [if_neg n119, if_pos h]
  have en : nxT tx l p = if byT tx l (p + 1) = 59 then p + 2 else p + 1 := by unfold nxT; rw [if_neg n119, if_pos h]
  have ee := s200_e (z := z) (γ := γ) (π := π) (η := η) (o := o) (od := od) T2 1 (Or.inr rfl) none (by omega)
  rw [en]
  refine ⟨_, ?_, Tp_7 T2 (p' := if byT tx l (p + 1) = 59 then p + 2 else p + 1) (by split <;> omega), Mt_up (Mt_up (Mt_up (Mt_up (Mt_up (Mt_r β) (by decide) _) (by decide) _) (by decide) _) (by decide) _) (by decide) _, ?_⟩
  · have eb : bi (okT tx l p) = bi ((1 : Int32) = 1 ∧ byT tx l (p + 1) = 59) := bi_c (by rw [eo]; exact ⟨fun w => ⟨rfl, w⟩, fun w => w.2⟩)
    have ec : (if byT tx l (p + 1) = 59 then p + 2 else p + 1) = if (1 : Int32) = 1 ∧ byT tx l (p + 1) = 59 then p + 1 + 1 else p + 1 := by
      by_cases w : byT tx l (p + 1) = 59
      · rw [if_pos w, if_pos ⟨rfl, w⟩]
      · rw [if_neg w, if_neg (fun x => w x.2)]
    rw [eb, ec, ← ee]
    rw [h] at e0 e1 hh hh1 ⊢
    simp only [↓reduceIte, e200_0, e200_1, e200_2, e200_3, e200_4, e200_7, e200_9, e200_12, e200_13, e200_16, e200_17, e200_20, e200_23, e200_24, e200_25, e200_28, e200_29, e200_32, e200_33, e200_34, e200_37, e200_39, e200_42, e200_43, e200_46, e200_47, e200_50, e200_53, e200_54, e200_56, e200_59, e200_62, e200_63, e200_64, e200_67, e200_69, e200_72, e200_73, e200_76, e200_78, e200_81, e200_82, e200_85, e200_87, e200_90, e200_91, e200_94, e200_95, e200_98, e200_101, e200_102, e200_105, e200_106, e200_108, e200_111, e200_112, e200_115, e200_117, e200_120, e200_121, e200_124, e200_125, e200_126, e200_127, e200_128, e200_131, e200_132, e200_135, e200_136, e200_139, e200_140, e200_141, e200_144, e200_145, isO70, hh, e0, hh1, e1, l1_119, i1_0, aft_v, aft_n, Option.bind_some, rf_some, ck_i, ck_r, ck_n, nb0, nb1, nbi, Nat.reduceAdd, if_true, if_false, not_false_eq_true, not_true_eq_false]
  · rw [up2_rd _ _ _ _ _ (by decide), up2_rd _ _ _ _ _ (by decide), up2_rr, h]
theorem s200_s (T : Tp β l tx p) (hp : p + 3 ≤ 160) (h1 : ¬ byT tx l p = 119) (h2 : ¬ byT tx l p = 101) : ∃ β', Run 200 0 [some (.ref (70)), none, none] [] (HC z γ π β η o od) = some (.inl (some (.int (bi (okT tx l p)))), (HC z γ π β' η o od)) ∧ Tp β' l tx (nxT tx l p) ∧ Mt β β' ∧ (okT tx l p → β' 70 8 = byT tx l (p + 1) ∧ β' 70 9 = byT tx l p - 48) := by
  have T1 := Tp_up T (Or.inl rfl) (byT tx l p) (p' := p) (by omega)
  have T2 := Tp_up T1 (Or.inl rfl) (byT tx l p) (p' := p) (by omega)
  have T3 := Tp_up T2 (Or.inr rfl) (byT tx l p - 48) (p' := if dg 9 (byT tx l p) then p + 1 else p) (by split <;> omega)
  have e0 := s199_0 (z := z) (γ := γ) (π := π) (η := η) (o := o) (od := od) T
  have e1 := s199_0 (z := z) (γ := γ) (π := π) (η := η) (o := o) (od := od) T1
  have e9 := s198 (z := z) (γ := γ) (π := π) (η := η) (o := o) (od := od) T2 9
  have hh := s197 (z := z) (γ := γ) (π := π) (η := η) (o := o) (od := od) T
  have hh1 := s197 (z := z) (γ := γ) (π := π) (η := η) (o := o) (od := od) T1
  have eo : okT tx l p = (dg 9 (byT tx l p) ∧ ltr (byT tx l (p + 1)) ∧ byT tx l (p + 2) = 59) := by unfold okT; rw [if_neg h1, if_neg h2]
  have en : nxT tx l p = if dg 9 (byT tx l p) then (if ltr (byT tx l (p + 1)) then (if byT tx l (p + 2) = 59 then p + 3 else p + 2) else p + 1) else p := by unfold nxT; rw [if_neg h1, if_neg h2]
  rw [en]
  by_cases q : dg 9 (byT tx l p)
  · rw [if_pos q] at T3 e9 ⊢
    rw [bi_t q] at e9
    have hh3 := s197 (z := z) (γ := γ) (π := π) (η := η) (o := o) (od := od) T3
    by_cases q2 : ltr (byT tx l (p + 1))
    · have T4 := Tp_up T3 (Or.inl rfl) (byT tx l (p + 1)) (p' := p + 1 + 1) (by omega)
      have e4 := s199_1 (z := z) (γ := γ) (π := π) (η := η) (o := o) (od := od) T3
      have ee := s200_e (z := z) (γ := γ) (π := π) (η := η) (o := o) (od := od) T4 1 (Or.inr rfl) none (by omega)
      rw [if_pos q2]
      refine ⟨_, ?_, Tp_7 T4 (p' := if byT tx l (p + 2) = 59 then p + 3 else p + 2) (by split <;> omega), Mt_up (Mt_up (Mt_up (Mt_up (Mt_up (Mt_up (Mt_up (Mt_up (Mt_up (Mt_r β) (by decide) _) (by decide) _) (by decide) _) (by decide) _) (by decide) _) (by decide) _) (by decide) _) (by decide) _) (by decide) _, fun _ => ⟨?_, ?_⟩⟩
      · have eb : bi (okT tx l p) = bi ((1 : Int32) = 1 ∧ byT tx l (p + 1 + 1) = 59) := bi_c (by rw [eo]; exact ⟨fun w => ⟨rfl, w.2.2⟩, fun w => ⟨q, q2, w.2⟩⟩)
        have ec : (if byT tx l (p + 2) = 59 then p + 3 else p + 2) = if (1 : Int32) = 1 ∧ byT tx l (p + 1 + 1) = 59 then p + 1 + 1 + 1 else p + 1 + 1 := by
          by_cases w : byT tx l (p + 2) = 59
          · have w' : byT tx l (p + 1 + 1) = 59 := w
            rw [if_pos w, if_pos ⟨rfl, w'⟩]
          · have w' : ¬ byT tx l (p + 1 + 1) = 59 := w
            rw [if_neg w, if_neg (fun x => w' x.2)]
        rw [eb, ec, ← ee]
        by_cases a1 : byT tx l (p + 1) = 97
        · simp only [↓reduceIte, e200_0, e200_1, e200_2, e200_3, e200_4, e200_7, e200_9, e200_12, e200_13, e200_16, e200_17, e200_20, e200_23, e200_24, e200_25, e200_28, e200_29, e200_32, e200_33, e200_34, e200_37, e200_39, e200_42, e200_43, e200_46, e200_47, e200_50, e200_53, e200_54, e200_56, e200_59, e200_62, e200_63, e200_64, e200_67, e200_69, e200_72, e200_73, e200_76, e200_78, e200_81, e200_82, e200_85, e200_87, e200_90, e200_91, e200_94, e200_95, e200_98, e200_101, e200_102, e200_105, e200_106, e200_108, e200_111, e200_112, e200_115, e200_117, e200_120, e200_121, e200_124, e200_125, e200_126, e200_127, e200_128, e200_131, e200_132, e200_135, e200_136, e200_139, e200_140, e200_141, e200_144, e200_145, isO70, hh, h1, e0, hh1, h2, e1, e9, hh3, e4, a1, i1_0, aft_v, aft_n, Option.bind_some, rf_some, ck_i, ck_r, ck_n, nb0, nb1, nbi, Nat.reduceAdd, if_true, if_false, not_false_eq_true, not_true_eq_false]
        · by_cases a2 : byT tx l (p + 1) = 108
          · simp only [a2] at hh3 e4 a1 ⊢
            simp only [↓reduceIte, e200_0, e200_1, e200_2, e200_3, e200_4, e200_7, e200_9, e200_12, e200_13, e200_16, e200_17, e200_20, e200_23, e200_24, e200_25, e200_28, e200_29, e200_32, e200_33, e200_34, e200_37, e200_39, e200_42, e200_43, e200_46, e200_47, e200_50, e200_53, e200_54, e200_56, e200_59, e200_62, e200_63, e200_64, e200_67, e200_69, e200_72, e200_73, e200_76, e200_78, e200_81, e200_82, e200_85, e200_87, e200_90, e200_91, e200_94, e200_95, e200_98, e200_101, e200_102, e200_105, e200_106, e200_108, e200_111, e200_112, e200_115, e200_117, e200_120, e200_121, e200_124, e200_125, e200_126, e200_127, e200_128, e200_131, e200_132, e200_135, e200_136, e200_139, e200_140, e200_141, e200_144, e200_145, isO70, hh, h1, e0, hh1, h2, e1, e9, hh3, e4, a1, i1_0, aft_v, aft_n, Option.bind_some, rf_some, ck_i, ck_r, ck_n, nb0, nb1, nbi, Nat.reduceAdd, if_true, if_false, not_false_eq_true, not_true_eq_false]
          · have a3 : byT tx l (p + 1) = 114 := (q2.resolve_left a1).resolve_left a2
            simp only [a3] at hh3 e4 a1 a2 ⊢
            simp only [↓reduceIte, e200_0, e200_1, e200_2, e200_3, e200_4, e200_7, e200_9, e200_12, e200_13, e200_16, e200_17, e200_20, e200_23, e200_24, e200_25, e200_28, e200_29, e200_32, e200_33, e200_34, e200_37, e200_39, e200_42, e200_43, e200_46, e200_47, e200_50, e200_53, e200_54, e200_56, e200_59, e200_62, e200_63, e200_64, e200_67, e200_69, e200_72, e200_73, e200_76, e200_78, e200_81, e200_82, e200_85, e200_87, e200_90, e200_91, e200_94, e200_95, e200_98, e200_101, e200_102, e200_105, e200_106, e200_108, e200_111, e200_112, e200_115, e200_117, e200_120, e200_121, e200_124, e200_125, e200_126, e200_127, e200_128, e200_131, e200_132, e200_135, e200_136, e200_139, e200_140, e200_141, e200_144, e200_145, isO70, hh, h1, e0, hh1, h2, e1, e9, hh3, e4, a1, a2, i1_0, aft_v, aft_n, Option.bind_some, rf_some, ck_i, ck_r, ck_n, nb0, nb1, nbi, Nat.reduceAdd, if_true, if_false, not_false_eq_true, not_true_eq_false]
      · rw [up2_rd _ _ _ _ _ (by decide), up2_rd _ _ _ _ _ (by decide), up2_rr]
      · rw [up2_rd _ _ _ _ _ (by decide), up2_rd _ _ _ _ _ (by decide), up2_rd _ _ _ _ _ (by decide), up2_rd _ _ _ _ _ (by decide), up2_rr]
    · have T4 := Tp_up T3 (Or.inl rfl) (byT tx l (p + 1)) (p' := p + 1) (by omega)
      have e4 := s199_0 (z := z) (γ := γ) (π := π) (η := η) (o := o) (od := od) T3
      have ee := s200_e (z := z) (γ := γ) (π := π) (η := η) (o := o) (od := od) T4 0 (Or.inl rfl) none (by omega)
      have z1 : ¬ ((0 : Int32) = 1 ∧ byT tx l (p + 1) = 59) := fun w => absurd w.1 (by decide)
      rw [if_neg z1, bi_f z1] at ee
      rw [if_neg q2]
      have a1 : ¬ byT tx l (p + 1) = 97 := fun w => q2 (Or.inl w)
      have a2 : ¬ byT tx l (p + 1) = 108 := fun w => q2 (Or.inr (Or.inl w))
      have a3 : ¬ byT tx l (p + 1) = 114 := fun w => q2 (Or.inr (Or.inr w))
      have no : ¬ okT tx l p := fun w => by rw [eo] at w; exact q2 w.2.1
      refine ⟨_, ?_, Tp_7 T4 (p' := p + 1) (by omega), Mt_up (Mt_up (Mt_up (Mt_up (Mt_up (Mt_up (Mt_up (Mt_up (Mt_up (Mt_r β) (by decide) _) (by decide) _) (by decide) _) (by decide) _) (by decide) _) (by decide) _) (by decide) _) (by decide) _) (by decide) _, fun w => absurd w no⟩
      rw [bi_f no, ← ee]
      simp only [↓reduceIte, e200_0, e200_1, e200_2, e200_3, e200_4, e200_7, e200_9, e200_12, e200_13, e200_16, e200_17, e200_20, e200_23, e200_24, e200_25, e200_28, e200_29, e200_32, e200_33, e200_34, e200_37, e200_39, e200_42, e200_43, e200_46, e200_47, e200_50, e200_53, e200_54, e200_56, e200_59, e200_62, e200_63, e200_64, e200_67, e200_69, e200_72, e200_73, e200_76, e200_78, e200_81, e200_82, e200_85, e200_87, e200_90, e200_91, e200_94, e200_95, e200_98, e200_101, e200_102, e200_105, e200_106, e200_108, e200_111, e200_112, e200_115, e200_117, e200_120, e200_121, e200_124, e200_125, e200_126, e200_127, e200_128, e200_131, e200_132, e200_135, e200_136, e200_139, e200_140, e200_141, e200_144, e200_145, isO70, hh, h1, e0, hh1, h2, e1, e9, hh3, e4, a1, a2, a3, i1_0, aft_v, aft_n, Option.bind_some, rf_some, ck_i, ck_r, ck_n, nb0, nb1, nbi, Nat.reduceAdd, if_true, if_false, not_false_eq_true, not_true_eq_false]
  · rw [if_neg q] at T3 e9 ⊢
    rw [bi_f q] at e9
    have ee := s200_e (z := z) (γ := γ) (π := π) (η := η) (o := o) (od := od) T3 0 (Or.inl rfl) none (by omega)
    have z1 : ¬ ((0 : Int32) = 1 ∧ byT tx l p = 59) := fun w => absurd w.1 (by decide)
    rw [if_neg z1, bi_f z1] at ee
    have no : ¬ okT tx l p := fun w => by rw [eo] at w; exact q w.1
    refine ⟨_, ?_, Tp_7 T3 (p' := p) (by omega), Mt_up (Mt_up (Mt_up (Mt_up (Mt_up (Mt_up (Mt_up (Mt_r β) (by decide) _) (by decide) _) (by decide) _) (by decide) _) (by decide) _) (by decide) _) (by decide) _, fun w => absurd w no⟩
    rw [bi_f no, ← ee]
    simp only [↓reduceIte, e200_0, e200_1, e200_2, e200_3, e200_4, e200_7, e200_9, e200_12, e200_13, e200_16, e200_17, e200_20, e200_23, e200_24, e200_25, e200_28, e200_29, e200_32, e200_33, e200_34, e200_37, e200_39, e200_42, e200_43, e200_46, e200_47, e200_50, e200_53, e200_54, e200_56, e200_59, e200_62, e200_63, e200_64, e200_67, e200_69, e200_72, e200_73, e200_76, e200_78, e200_81, e200_82, e200_85, e200_87, e200_90, e200_91, e200_94, e200_95, e200_98, e200_101, e200_102, e200_105, e200_106, e200_108, e200_111, e200_112, e200_115, e200_117, e200_120, e200_121, e200_124, e200_125, e200_126, e200_127, e200_128, e200_131, e200_132, e200_135, e200_136, e200_139, e200_140, e200_141, e200_144, e200_145, isO70, hh, h1, e0, hh1, h2, e1, e9, i1_0, aft_v, aft_n, Option.bind_some, rf_some, ck_i, ck_r, ck_n, nb0, nb1, nbi, Nat.reduceAdd, if_true, if_false, not_false_eq_true, not_true_eq_false]
theorem s200 (T : Tp β l tx p) (hp : p + 3 ≤ 160) : ∃ β', Run 200 0 [some (.ref (70)), none, none] [] (HC z γ π β η o od) = some (.inl (some (.int (bi (okT tx l p)))), (HC z γ π β' η o od)) ∧ Tp β' l tx (nxT tx l p) ∧ Mt β β' ∧ (okT tx l p → (byT tx l p = 119 → β' 70 8 = 119 ∧ β' 70 9 = byT tx l (p + 1) - 48) ∧ (byT tx l p = 101 → β' 70 8 = 101) ∧ (¬ byT tx l p = 119 → ¬ byT tx l p = 101 → β' 70 8 = byT tx l (p + 1) ∧ β' 70 9 = byT tx l p - 48)) := by
  by_cases h1 : byT tx l p = 119
  · obtain ⟨β', a, b, c, d, e⟩ := s200_w (z := z) (γ := γ) (π := π) (η := η) (o := o) (od := od) T hp h1
    exact ⟨β', a, b, c, fun _ => ⟨fun _ => ⟨d, e⟩, fun w => by rw [h1] at w; exact absurd w (by decide), fun w => absurd h1 w⟩⟩
  · by_cases h2 : byT tx l p = 101
    · obtain ⟨β', a, b, c, d⟩ := s200_x (z := z) (γ := γ) (π := π) (η := η) (o := o) (od := od) T hp h2
      exact ⟨β', a, b, c, fun _ => ⟨fun w => absurd w h1, fun _ => d, fun _ w => absurd h2 w⟩⟩
    · obtain ⟨β', a, b, c, d⟩ := s200_s (z := z) (γ := γ) (π := π) (η := η) (o := o) (od := od) T hp h1 h2
      exact ⟨β', a, b, c, fun w => ⟨fun x => absurd x h1, fun x => absurd x h2, fun _ _ => d w⟩⟩
theorem s201_l {α : Mem} : ∀ k i (β : Mem), l ≤ i + k → i ≤ l → Tp β l (α 69) i → ∃ β' p', Run 201 7 [some (.ref (70)), some (.int (1))] [] (HC z γ π β η o od) = some (.inl (some (.int (bi (errF α l (l - i) i 0 = -1)))), (HC z γ π β' η o od)) ∧ Tp β' l (α 69) p' ∧ Mt β β' ∧ (¬ errF α l (l - i) i 0 = -1 → errF α l (l - i) i 0 = J p') := by
  intro k
  induction k with
  | zero =>
    intro i β h1 h2 T
    have hl : i = l := by omega
    subst hl
    have e : errF α i (i - i) i 0 = -1 := by rw [Nat.sub_self]; rfl
    refine ⟨β, i, ?_, T, Mt_r β, fun w => absurd e w⟩
    rw [bi_t e]
    simp only [↓reduceIte, e201_0, e201_1, e201_2, e201_5, e201_6, e201_7, e201_8, e201_11, e201_12, e201_15, e201_16, e201_19, e201_22, e201_23, e201_26, e201_27, e201_30, e201_31, gf9_7 kd_70, gf9_4 kd_70, T.1, T.2.2.2.1, Int32.le_refl, i1_0, aft_v, aft_n, Option.bind_some, rf_some, ck_i, ck_r, ck_n, nb0, nb1, nbi, Nat.reduceAdd, if_true, if_false, not_false_eq_true, not_true_eq_false]
  | succ k ih =>
    intro i β h1 h2 T
    have h150 := T.2.1
    by_cases hil : i < l
    · obtain ⟨β1, a, b, c, -⟩ := s200 (z := z) (γ := γ) (π := π) (η := η) (o := o) (od := od) T (by omega)
      have er := err_or (α := α) hil
      by_cases q : okT (α 69) l i
      · have hx := ok_nx q
        obtain ⟨β2, p', a2, b2, c2, d2⟩ := ih (nxT (α 69) l i) β1 (by omega) (by omega) b
        rw [er.1 q]
        refine ⟨β2, p', ?_, b2, Mt_t c c2, d2⟩
        rw [bi_t q] at a
        rw [← a2, e201_7]
        simp only [↓reduceIte, e201_0, e201_1, e201_2, e201_5, e201_6, e201_8, e201_11, e201_12, e201_15, e201_16, e201_19, e201_22, e201_23, e201_26, e201_27, e201_30, e201_31, gf9_7 kd_70, gf9_4 kd_70, T.1, T.2.2.2.1, isO70, J_le (show l < 2147483648 by omega) (show i < 2147483648 by omega), show ¬ l ≤ i by omega, a, i1_0, aft_v, aft_n, Option.bind_some, rf_some, ck_i, ck_r, ck_n, nb0, nb1, nbi, Nat.reduceAdd, if_true, if_false, not_false_eq_true, not_true_eq_false]
      · have hJ : ¬ J (nxT (α 69) l i) = -1 := Jm1 (by have := b.2.2.2.2; omega)
        refine ⟨β1, nxT (α 69) l i, ?_, b, c, fun _ => er.2 q⟩
        rw [bi_f q] at a
        rw [er.2 q, bi_f hJ]
        simp only [↓reduceIte, e201_0, e201_1, e201_2, e201_5, e201_6, e201_7, e201_8, e201_11, e201_12, e201_15, e201_16, e201_19, e201_22, e201_23, e201_26, e201_27, e201_30, e201_31, gf9_7 kd_70, gf9_4 kd_70, T.1, T.2.2.2.1, isO70, J_le (show l < 2147483648 by omega) (show i < 2147483648 by omega), show ¬ l ≤ i by omega, a, i1_0, aft_v, aft_n, Option.bind_some, rf_some, ck_i, ck_r, ck_n, nb0, nb1, nbi, Nat.reduceAdd, if_true, if_false, not_false_eq_true, not_true_eq_false]
    · have hl : i = l := by omega
      subst hl
      have e : errF α i (i - i) i 0 = -1 := by rw [Nat.sub_self]; rfl
      refine ⟨β, i, ?_, T, Mt_r β, fun w => absurd e w⟩
      rw [bi_t e]
      simp only [↓reduceIte, e201_0, e201_1, e201_2, e201_5, e201_6, e201_7, e201_8, e201_11, e201_12, e201_15, e201_16, e201_19, e201_22, e201_23, e201_26, e201_27, e201_30, e201_31, gf9_7 kd_70, gf9_4 kd_70, T.1, T.2.2.2.1, Int32.le_refl, i1_0, aft_v, aft_n, Option.bind_some, rf_some, ck_i, ck_r, ck_n, nb0, nb1, nbi, Nat.reduceAdd, if_true, if_false, not_false_eq_true, not_true_eq_false]
/-- the text as both hold it -/
theorem s201 {α : Mem} (t1 : β 70 4 = J l) (t2 : l ≤ 150) (t3 : ∀ i, i < l → β 73 i = α 69 i) : ∃ β' p', Run 201 0 [some (.ref (70)), none] [] (HC z γ π β η o od) = some (.inl (some (.int (bi (errF α l l 0 0 = -1)))), (HC z γ π β' η o od)) ∧ Tp β' l (α 69) p' ∧ Mt β β' ∧ (¬ errF α l l 0 0 = -1 → errF α l l 0 0 = J p') := by
  have T0 : Tp (up2 β 70 7 (J 0)) l (α 69) 0 := ⟨by rw [up2_rd _ _ _ _ _ (by decide)]; exact t1, t2, fun i hi => by rw [up2_ne _ (by decide)]; exact t3 i hi, up2_rr .., by omega⟩
  obtain ⟨β', p', a, b, c, d⟩ := s201_l (z := z) (γ := γ) (π := π) (η := η) (o := o) (od := od) (α := α) l 0 _ (by omega) (by omega) T0
  rw [Nat.sub_zero] at a d
  refine ⟨β', p', ?_, b, Mt_t (Mt_up (Mt_r β) (by decide) _) c, d⟩
  rw [← a]
  simp only [↓reduceIte, e201_0, e201_1, e201_2, e201_5, e201_6, e201_8, e201_11, e201_12, e201_15, e201_16, e201_19, e201_22, e201_23, e201_26, e201_27, e201_30, e201_31, pf9_7 kd_70, show J 0 = (0 : Int32) from rfl, aft_v, aft_n, Option.bind_some, rf_some, ck_i, ck_r, ck_n, nb0, nb1, nbi, Nat.reduceAdd, if_true, if_false, not_false_eq_true, not_true_eq_false]
end S63m
