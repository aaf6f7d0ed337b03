/-! the model: what can be reached; the calls reach and pointsAt -/
theorem J1728 : (1728 : Int32) = J 1728 := rfl
section S70
variable {z : Zr} {α β γ : Mem} {π : Nat → Nat} {η : Int64} {o : Nat → Int64} {od : Nat → UInt64} {n k : Nat}
theorem s187_f {i : Nat} (u3 u4 : Option Value) : ∀ k j, j + k = 1728 → Run 187 2 [some (.ref (70)), some (.int (J i)), some (.int (J j)), u3, u4] [] (HC z γ π (upA β 74 (fillF β 74 j (-1))) η o od) = Run 187 22 [some (.ref (70)), some (.int (J i)), some (.int (J 1728)), u3, u4] [] (HC z γ π (ML β (fun _ => -1)) η o od) := by
  intro k
  induction k with
  | zero =>
    intro j hj
    have : j = 1728 := by omega
    subst this
    have e : upA β 74 (fillF β 74 1728 (-1)) = ML β (fun _ => -1) := rfl
    rw [e]
    simp only [↓reduceIte, e187_0, e187_1, e187_2, e187_3, e187_6, e187_9, e187_10, e187_13, e187_14, e187_15, e187_16, e187_19, e187_23, e187_26, e187_27, e187_28, e187_29, e187_30, e187_33, e187_34, e187_35, e187_36, e187_39, e187_40, e187_41, e187_43, e187_46, e187_49, e187_50, e187_51, e187_53, e187_56, e187_57, e187_58, e187_59, e187_60, e187_63, e187_66, e187_67, e187_68, e187_70, e187_73, e187_74, e187_77, e187_78, e187_79, e187_81, e187_84, e187_87, e187_88, e187_89, e187_90, e187_91, e187_92, e187_95, e187_96, e187_98, e187_100, e187_102, e187_103, e187_106, e187_107, e187_110, e187_111, e187_114, e187_116, e187_117, e187_118, e187_121, e187_122, e187_123, e187_125, e187_126, e187_129, e187_132, e187_135, e187_138, e187_141, J1728, Int32.le_refl, aft_v, aft_n, Option.bind_some, rf_some, ck_i, ck_r, ck_n, nb0, nb1, nbi, Nat.reduceAdd, if_true, if_false, not_false_eq_true, not_true_eq_false]
  | succ k ih =>
    intro j hj
    rw [e187_2]
    simp only [↓reduceIte, e187_0, e187_1, e187_3, e187_6, e187_9, e187_10, e187_13, e187_14, e187_15, e187_16, e187_19, e187_23, e187_26, e187_27, e187_28, e187_29, e187_30, e187_33, e187_34, e187_35, e187_36, e187_39, e187_40, e187_41, e187_43, e187_46, e187_49, e187_50, e187_51, e187_53, e187_56, e187_57, e187_58, e187_59, e187_60, e187_63, e187_66, e187_67, e187_68, e187_70, e187_73, e187_74, e187_77, e187_78, e187_79, e187_81, e187_84, e187_87, e187_88, e187_89, e187_90, e187_91, e187_92, e187_95, e187_96, e187_98, e187_100, e187_102, e187_103, e187_106, e187_107, e187_110, e187_111, e187_114, e187_116, e187_117, e187_118, e187_121, e187_122, e187_123, e187_125, e187_126, e187_129, e187_132, e187_135, e187_138, e187_141, J1728, J_le (show 1728 < 2147483648 by omega) (show j < 2147483648 by omega), show ¬ 1728 ≤ j by omega, gf9_6 kd_70, paI41 kd_74 (in74 (show j < 1728 by omega)), J_tn (show j < 2147483648 by omega), fill_st, J_succ, ih (j + 1) (by omega), aft_v, aft_n, Option.bind_some, rf_some, ck_i, ck_r, ck_n, nb0, nb1, nbi, Nat.reduceAdd, if_true, if_false, not_false_eq_true, not_true_eq_false]
theorem s187_i (H : Ok α n) (R : Rm (β 71) α n) {i : Nat} (hi : i < n) {p : Nat} (hp : p < 1000) {pt : Nat → Int32} (G0 : Gd pt (J (p + 1))) (V0 : Vd α pt) (u2 : Option Value) : ∀ k j pj, j + k = 12 * szN α → Pr α n i (fun s => s < j ∧ pt s = J (p + 1)) pt pj (J p) → ∃ pe, Run 187 98 [some (.ref (70)), some (.int (J i)), u2, some (.int (J (p + 1))), some (.int (J j))] [] (HC z γ π (ML β pj) η o od) = Run 187 135 [some (.ref (70)), some (.int (J i)), u2, some (.int (J (p + 1))), some (.int (J (12 * szN α)))] [] (HC z γ π (ML β pe) η o od) ∧ Pr α n i (fun s => s < 12 * szN α ∧ pt s = J (p + 1)) pt pe (J p) := by
  have hsz := H.sz
  have e12 : 12 * (α 4 0 * α 4 1) = J (12 * szN α) := by rw [hsz.1, show (12 : Int32) = J 12 from rfl, J_mul]
  intro k
  induction k with
  | zero =>
    intro j pj hj P
    have : j = 12 * szN α := by omega
    subst this
    refine ⟨pj, ?_, P⟩
    simp only [↓reduceIte, e187_0, e187_1, e187_2, e187_3, e187_6, e187_9, e187_10, e187_13, e187_14, e187_15, e187_16, e187_19, e187_22, e187_23, e187_26, e187_27, e187_28, e187_29, e187_30, e187_33, e187_34, e187_35, e187_36, e187_39, e187_40, e187_41, e187_43, e187_46, e187_49, e187_50, e187_51, e187_53, e187_56, e187_57, e187_58, e187_59, e187_60, e187_63, e187_66, e187_67, e187_68, e187_70, e187_73, e187_74, e187_77, e187_78, e187_79, e187_81, e187_84, e187_87, e187_88, e187_89, e187_90, e187_91, e187_92, e187_95, e187_96, e187_98, e187_100, e187_102, e187_103, e187_106, e187_107, e187_110, e187_111, e187_114, e187_116, e187_117, e187_118, e187_121, e187_122, e187_123, e187_125, e187_126, e187_129, e187_132, e187_138, e187_141, isO70, s122 (Rm_ML R pj), e12, Int32.le_refl, aft_v, aft_n, Option.bind_some, rf_some, ck_i, ck_r, ck_n, nb0, nb1, nbi, Nat.reduceAdd, if_true, if_false, not_false_eq_true, not_true_eq_false]
  | succ k ih =>
    intro j pj hj P
    have hj2 : j < 12 * szN α := by omega
    have hj3 : j < 1728 := by omega
    have hm : ¬ J (p + 1) = -1 := Jm1 (by omega)
    have hmp : ¬ J p = -1 := Jm1 (by omega)
    have hne : ¬ J p = J (p + 1) := by rw [J_eq (by omega) (by omega)]; omega
    have hr : gaI (HC z γ π (ML β pj) η o od) 74 (J j) = some (pj j) := by rw [gaI41 kd_74 (in74 hj3), J_tn (by omega), ML_at _ _ hj3]
    have hiff : pj j = J (p + 1) ↔ pt j = J (p + 1) := by
      by_cases q : pt j = -1 ∧ ∃ s, (s < j ∧ pt s = J (p + 1)) ∧ Ed α n i s j
      · rw [(P j).1 q, q.1]
        exact ⟨fun w => absurd w hne, fun w => absurd w.symm hm⟩
      · rw [(P j).2 q]
    have cnd : ¬ J (12 * szN α) ≤ J j := by rw [J_le (by omega) (by omega)]; omega
    by_cases q : pt j = J (p + 1)
    · have hc := V0 j hj3 (by rw [q]; exact hm)
      have G : Gd pj (J p) := Gd_pr hp P G0
      have e186 := s186 (z := z) (β := β) (γ := γ) (π := π) (η := η) (o := o) (od := od) H R hi hp G hj3 hc
      have P1 := Pr_st hmp P j
      have P2 : Pr α n i (fun s => s < j + 1 ∧ pt s = J (p + 1)) pt (spr pj (J p) (aE α n i j) (tE α j ((j % 12 / 2 + 1) % 6)) (tE α j ((j % 12 / 2 + 5) % 6))) (J p) := by
        refine Pr_cg (fun s => ?_) P1
        constructor
        · rintro ⟨x1, x2⟩
          by_cases w : s = j
          · exact Or.inr w
          · exact Or.inl ⟨by omega, x2⟩
        · rintro (⟨x1, x2⟩ | rfl)
          · exact ⟨by omega, x2⟩
          · exact ⟨by omega, q⟩
      obtain ⟨pe, g1, g2⟩ := ih (j + 1) _ (by omega) P2
      refine ⟨pe, ?_, g2⟩
      rw [← g1, e187_98]
      simp only [↓reduceIte, e187_0, e187_1, e187_2, e187_3, e187_6, e187_9, e187_10, e187_13, e187_14, e187_15, e187_16, e187_19, e187_22, e187_23, e187_26, e187_27, e187_28, e187_29, e187_30, e187_33, e187_34, e187_35, e187_36, e187_39, e187_40, e187_41, e187_43, e187_46, e187_49, e187_50, e187_51, e187_53, e187_56, e187_57, e187_58, e187_59, e187_60, e187_63, e187_66, e187_67, e187_68, e187_70, e187_73, e187_74, e187_77, e187_78, e187_79, e187_81, e187_84, e187_87, e187_88, e187_89, e187_90, e187_91, e187_92, e187_95, e187_96, e187_100, e187_102, e187_103, e187_106, e187_107, e187_110, e187_111, e187_114, e187_116, e187_117, e187_118, e187_121, e187_122, e187_123, e187_125, e187_126, e187_129, e187_132, e187_138, e187_141, isO70, s122 (Rm_ML R pj), e12, cnd, gf9_6 kd_70, hr, hiff.mpr q, e186, J_succ, aft_v, aft_n, Option.bind_some, rf_some, ck_i, ck_r, ck_n, nb0, nb1, nbi, Nat.reduceAdd, if_true, if_false, not_false_eq_true, not_true_eq_false]
    · have P2 : Pr α n i (fun s => s < j + 1 ∧ pt s = J (p + 1)) pt pj (J p) := by
        refine Pr_cg (fun s => ?_) P
        constructor
        · rintro ⟨x1, x2⟩
          have : s ≠ j := fun w => by rw [w] at x2; exact q x2
          exact ⟨by omega, x2⟩
        · rintro ⟨x1, x2⟩; exact ⟨by omega, x2⟩
      obtain ⟨pe, g1, g2⟩ := ih (j + 1) pj (by omega) P2
      refine ⟨pe, ?_, g2⟩
      have qn : ¬ pj j = J (p + 1) := fun w => q (hiff.mp w)
      rw [← g1, e187_98]
      simp only [↓reduceIte, e187_0, e187_1, e187_2, e187_3, e187_6, e187_9, e187_10, e187_13, e187_14, e187_15, e187_16, e187_19, e187_22, e187_23, e187_26, e187_27, e187_28, e187_29, e187_30, e187_33, e187_34, e187_35, e187_36, e187_39, e187_40, e187_41, e187_43, e187_46, e187_49, e187_50, e187_51, e187_53, e187_56, e187_57, e187_58, e187_59, e187_60, e187_63, e187_66, e187_67, e187_68, e187_70, e187_73, e187_74, e187_77, e187_78, e187_79, e187_81, e187_84, e187_87, e187_88, e187_89, e187_90, e187_91, e187_92, e187_95, e187_96, e187_100, e187_102, e187_103, e187_106, e187_107, e187_110, e187_111, e187_114, e187_116, e187_117, e187_118, e187_121, e187_122, e187_123, e187_125, e187_126, e187_129, e187_132, e187_138, e187_141, isO70, s122 (Rm_ML R pj), e12, cnd, gf9_6 kd_70, hr, qn, J_succ, aft_v, aft_n, Option.bind_some, rf_some, ck_i, ck_r, ck_n, nb0, nb1, nbi, Nat.reduceAdd, if_true, if_false, not_false_eq_true, not_true_eq_false]
theorem s187_o (H : Ok α n) (R : Rm (β 71) α n) {i : Nat} (hi : i < n) (u2 : Option Value) : ∀ p, p < 1000 → ∀ pt (u : Option Value), Gd pt (J p) → Vd α pt → ∃ pF, Run 187 91 [some (.ref (70)), some (.int (J i)), u2, some (.int (J p)), u] [] (HC z γ π (ML β pt) η o od) = some (.inl none, (HC z γ π (ML β pF) η o od)) ∧ Phs α n i p pt pF ∧ Vd α pF := by
  intro p
  induction p with
  | zero =>
    intro _ pt u G V
    refine ⟨pt, ?_, rfl, V⟩
    have z0 : ((J 0 : Int32) ≤ 0) = True := eq_true (by decide)
    simp only [↓reduceIte, e187_0, e187_1, e187_2, e187_3, e187_6, e187_9, e187_10, e187_13, e187_14, e187_15, e187_16, e187_19, e187_22, e187_23, e187_26, e187_27, e187_28, e187_29, e187_30, e187_33, e187_34, e187_35, e187_36, e187_39, e187_40, e187_41, e187_43, e187_46, e187_49, e187_50, e187_51, e187_53, e187_56, e187_57, e187_58, e187_59, e187_60, e187_63, e187_66, e187_67, e187_68, e187_70, e187_73, e187_74, e187_77, e187_78, e187_79, e187_81, e187_84, e187_87, e187_88, e187_89, e187_90, e187_91, e187_92, e187_95, e187_96, e187_98, e187_100, e187_102, e187_103, e187_106, e187_107, e187_110, e187_111, e187_114, e187_116, e187_117, e187_118, e187_121, e187_122, e187_123, e187_125, e187_126, e187_129, e187_132, e187_135, e187_138, e187_141, z0, aft_v, aft_n, Option.bind_some, rf_some, ck_i, ck_r, ck_n, nb0, nb1, nbi, Nat.reduceAdd, if_true, if_false, not_false_eq_true, not_true_eq_false]
  | succ p ih =>
    intro hp pt u G V
    have hm : ¬ J (p + 1) = -1 := Jm1 (by omega)
    have P0 : Pr α n i (fun s => s < 0 ∧ pt s = J (p + 1)) pt pt (J p) := Pr_0 (fun s h => absurd h.1 (Nat.not_lt_zero s))
    obtain ⟨pe, f1, f2⟩ := s187_i (z := z) (β := β) (γ := γ) (π := π) (η := η) (o := o) (od := od) H R hi (show p < 1000 by omega) G V u2 (12 * szN α) 0 pt (by omega) P0
    have f2' : Pr α n i (fun s => s < 1728 ∧ pt s = J (p + 1)) pt pe (J p) := by
      refine Pr_cg (fun s => ?_) f2
      have := H.sz.2
      constructor
      · rintro ⟨x1, x2⟩; exact ⟨Vd_lt H V x1 (by rw [x2]; exact hm), x2⟩
      · rintro ⟨x1, x2⟩; exact ⟨by omega, x2⟩
    have V1 : Vd α pe := Vd_pr H hi f2' V (fun s hs => ⟨hs.1, by rw [hs.2]; exact hm⟩)
    obtain ⟨pF, g1, g2, g3⟩ := ih (by omega) pe (some (.int (J (12 * szN α)))) (Gd_pr (by omega) f2' G) V1
    refine ⟨pF, ?_, ⟨pe, f2', g2⟩, g3⟩
    have np : ((J (p + 1) : Int32) ≤ 0) = False := eq_false (by rw [J0, J_le (by omega) (by omega)]; omega)
    rw [show J 0 = (0 : Int32) from rfl] at f1
    have st : Run 187 91 [some (.ref (70)), some (.int (J i)), u2, some (.int (J (p + 1))), u] [] (HC z γ π (ML β pt) η o od) = Run 187 98 [some (.ref (70)), some (.int (J i)), u2, some (.int (J (p + 1))), some (.int (0))] [] (HC z γ π (ML β pt) η o od) := by
      simp only [↓reduceIte, e187_0, e187_1, e187_2, e187_3, e187_6, e187_9, e187_10, e187_13, e187_14, e187_15, e187_16, e187_19, e187_22, e187_23, e187_26, e187_27, e187_28, e187_29, e187_30, e187_33, e187_34, e187_35, e187_36, e187_39, e187_40, e187_41, e187_43, e187_46, e187_49, e187_50, e187_51, e187_53, e187_56, e187_57, e187_58, e187_59, e187_60, e187_63, e187_66, e187_67, e187_68, e187_70, e187_73, e187_74, e187_77, e187_78, e187_79, e187_81, e187_84, e187_87, e187_88, e187_89, e187_90, e187_91, e187_92, e187_95, e187_96, e187_100, e187_102, e187_103, e187_106, e187_107, e187_110, e187_111, e187_114, e187_116, e187_117, e187_118, e187_121, e187_122, e187_123, e187_125, e187_126, e187_129, e187_132, e187_135, e187_138, e187_141, np, aft_v, aft_n, Option.bind_some, rf_some, ck_i, ck_r, ck_n, nb0, nb1, nbi, Nat.reduceAdd, if_true, if_false, not_false_eq_true, not_true_eq_false]
    rw [st, f1, ← g1]
    simp only [↓reduceIte, e187_0, e187_1, e187_2, e187_3, e187_6, e187_9, e187_10, e187_13, e187_14, e187_15, e187_16, e187_19, e187_22, e187_23, e187_26, e187_27, e187_28, e187_29, e187_30, e187_33, e187_34, e187_35, e187_36, e187_39, e187_40, e187_41, e187_43, e187_46, e187_49, e187_50, e187_51, e187_53, e187_56, e187_57, e187_58, e187_59, e187_60, e187_63, e187_66, e187_67, e187_68, e187_70, e187_73, e187_74, e187_77, e187_78, e187_79, e187_81, e187_84, e187_87, e187_88, e187_89, e187_90, e187_92, e187_95, e187_96, e187_98, e187_100, e187_102, e187_103, e187_106, e187_107, e187_110, e187_111, e187_114, e187_116, e187_117, e187_118, e187_121, e187_122, e187_123, e187_125, e187_126, e187_129, e187_132, e187_135, e187_138, e187_141, J_pred', aft_v, aft_n, Option.bind_some, rf_some, ck_i, ck_r, ck_n, nb0, nb1, nbi, Nat.reduceAdd, if_true, if_false, not_false_eq_true, not_true_eq_false]
theorem s187 (H : Ok α n) (R : Rm (β 71) α n) {i : Nat} (hi : i < n) : ∃ pF, Run 187 0 [some (.ref (70)), some (.int (J i)), none, none, none] [] (HC z γ π β η o od) = some (.inl none, (HC z γ π (ML β pF) η o od)) ∧ Phs α n i (phN α i) (pts0 α i) pF ∧ Vd α pF := by
  have h8 := H.n8
  obtain ⟨c1, c2⟩ := H.clJ hi
  obtain ⟨w1, w2⟩ := H.wyJ hi
  obtain ⟨p1, p2⟩ := H.ptJ hi
  have hd := H.hdJ hi
  have ht : 12 * (α (7 + i) 1).toNatClampNeg + (2 * hdA α (7 + i) + (α (7 + i) 14).toNatClampNeg) < 1728 := by have := hd.1; omega
  have f0 := s187_f (z := z) (β := β) (γ := γ) (π := π) (η := η) (o := o) (od := od) (i := i) none none 1728 0 (by omega)
  rw [fill_0, show J 0 = (0 : Int32) from rfl] at f0
  have R' := Rm_ML R (fun _ => (-1 : Int32))
  have e183 : Run 183 0 [some (.ref (70)), some (.int (α (7 + i) 1)), some (.int (α (7 + i) 2)), some (.int (α (7 + i) 14))] [] (HC z γ π (ML β (fun _ => -1)) η o od) = some (.inl (some (.int (J (12 * (α (7 + i) 1).toNatClampNeg + (2 * hdA α (7 + i) + (α (7 + i) 14).toNatClampNeg))))), (HC z γ π (ML β (fun _ => -1)) η o od)) := by
    have := s183 (z := z) (β := ML β (fun _ => -1)) (γ := γ) (π := π) (η := η) (o := o) (od := od) (α (7 + i) 1).toNatClampNeg (hdA α (7 + i)) (α (7 + i) 14).toNatClampNeg
    rw [← c1, ← hd.2, ← w1] at this
    exact this
  have hw : ∀ x, paI (HC z γ π (ML β (fun _ => -1)) η o od) 74 (J (12 * (α (7 + i) 1).toNatClampNeg + (2 * hdA α (7 + i) + (α (7 + i) 14).toNatClampNeg))) x = some (HC z γ π (ML β (upd (fun _ => -1) (12 * (α (7 + i) 1).toNatClampNeg + (2 * hdA α (7 + i) + (α (7 + i) 14).toNatClampNeg)) x)) η o od) := fun x => by rw [paI41 kd_74 (in74 ht), J_tn (by omega), ML_up _ _ ht]
  have ep : upd (fun _ => (-1 : Int32)) (12 * (α (7 + i) 1).toNatClampNeg + (2 * hdA α (7 + i) + (α (7 + i) 14).toNatClampNeg)) (α (7 + i) 9) = pts0 α i := by
    unfold pts0 upt; rw [if_pos rfl]
  have R2 := Rm_ML R (pts0 α i)
  have hph : phN α i ≤ 9 := by unfold phN; split <;> omega
  have G1 : Gd (pts0 α i) (J (phN α i)) := by
    intro t ht2
    rcases Gd_0 H hi t ht2 with q | q
    · exact Or.inl q
    · right
      rw [J_ti (by omega)]
      have e9 : (α (7 + i) 9).toInt = (α (7 + i) 9).toNatClampNeg := by
        have h9 := (H.pts i hi).1
        unfold Int32.toNatClampNeg; omega
      have : phN α i ≤ (α (7 + i) 9).toNatClampNeg := by unfold phN; split <;> omega
      omega
  obtain ⟨pF, g1, g2, g3⟩ := s187_o (z := z) (β := β) (γ := γ) (π := π) (η := η) (o := o) (od := od) H R hi (some (.int (J (phN α i)))) (phN α i) (by omega) (pts0 α i) none G1 (Vd_0 H hi)
  refine ⟨pF, ?_, g2, g3⟩
  rw [← g1]
  have st : Run 187 0 [some (.ref (70)), some (.int (J i)), none, none, none] [] (HC z γ π β η o od) = Run 187 2 [some (.ref (70)), some (.int (J i)), some (.int (0)), none, none] [] (HC z γ π β η o od) := by simp only [↓reduceIte, e187_0, e187_1, e187_3, e187_6, e187_9, e187_10, e187_13, e187_14, e187_15, e187_16, e187_19, e187_22, e187_23, e187_26, e187_27, e187_28, e187_29, e187_30, e187_33, e187_34, e187_35, e187_36, e187_39, e187_40, e187_41, e187_43, e187_46, e187_49, e187_50, e187_51, e187_53, e187_56, e187_57, e187_58, e187_59, e187_60, e187_63, e187_66, e187_67, e187_68, e187_70, e187_73, e187_74, e187_77, e187_78, e187_79, e187_81, e187_84, e187_87, e187_88, e187_89, e187_90, e187_91, e187_92, e187_95, e187_96, e187_98, e187_100, e187_102, e187_103, e187_106, e187_107, e187_110, e187_111, e187_114, e187_116, e187_117, e187_118, e187_121, e187_122, e187_123, e187_125, e187_126, e187_129, e187_132, e187_135, e187_138, e187_141, aft_v, aft_n, Option.bind_some, rf_some, ck_i, ck_r, ck_n, nb0, nb1, nbi, Nat.reduceAdd, if_true, if_false, not_false_eq_true, not_true_eq_false]
  rw [st, f0]
  have eph : phN α i = if 0 < α (7 + i) 4 ∧ α (7 + i) 12 = -1 then (α (7 + i) 9).toNatClampNeg else 0 := rfl
  by_cases q1 : 0 < α (7 + i) 4
  · by_cases q2 : α (7 + i) 12 = -1
    · rw [if_pos ⟨q1, q2⟩] at eph
      rw [eph, ← p1]
      simp only [↓reduceIte, e187_0, e187_1, e187_2, e187_3, e187_6, e187_9, e187_10, e187_13, e187_14, e187_15, e187_16, e187_19, e187_22, e187_23, e187_26, e187_27, e187_28, e187_29, e187_30, e187_33, e187_34, e187_35, e187_36, e187_39, e187_40, e187_41, e187_43, e187_46, e187_49, e187_50, e187_51, e187_53, e187_56, e187_57, e187_58, e187_59, e187_60, e187_63, e187_66, e187_67, e187_68, e187_70, e187_73, e187_74, e187_77, e187_78, e187_79, e187_81, e187_84, e187_87, e187_88, e187_89, e187_90, e187_92, e187_95, e187_96, e187_98, e187_100, e187_102, e187_103, e187_106, e187_107, e187_110, e187_111, e187_114, e187_116, e187_117, e187_118, e187_121, e187_122, e187_123, e187_125, e187_126, e187_129, e187_132, e187_135, e187_138, e187_141, isO70, gf9_6 kd_70, s125_1 R' h8 hi, s125_2 R' h8 hi, s125_13 R' h8 hi, s125_8 R' h8 hi, e183, hw, ep, s125_4 R2 h8 hi, s125_11 R2 h8 hi, s125_8 R2 h8 hi, q1, q2, le_not, aft_v, aft_n, Option.bind_some, rf_some, ck_i, ck_r, ck_n, nb0, nb1, nbi, Nat.reduceAdd, if_true, if_false, not_false_eq_true, not_true_eq_false]
    · rw [if_neg (fun w => q2 w.2)] at eph
      rw [eph, show J 0 = (0 : Int32) from rfl]
      simp only [↓reduceIte, e187_0, e187_1, e187_2, e187_3, e187_6, e187_9, e187_10, e187_13, e187_14, e187_15, e187_16, e187_19, e187_22, e187_23, e187_26, e187_27, e187_28, e187_29, e187_30, e187_33, e187_34, e187_35, e187_36, e187_39, e187_40, e187_41, e187_43, e187_46, e187_49, e187_50, e187_51, e187_53, e187_56, e187_57, e187_58, e187_59, e187_60, e187_63, e187_66, e187_67, e187_68, e187_70, e187_73, e187_74, e187_77, e187_78, e187_79, e187_81, e187_84, e187_87, e187_88, e187_89, e187_90, e187_92, e187_95, e187_96, e187_98, e187_100, e187_102, e187_103, e187_106, e187_107, e187_110, e187_111, e187_114, e187_116, e187_117, e187_118, e187_121, e187_122, e187_123, e187_125, e187_126, e187_129, e187_132, e187_135, e187_138, e187_141, isO70, gf9_6 kd_70, s125_1 R' h8 hi, s125_2 R' h8 hi, s125_13 R' h8 hi, s125_8 R' h8 hi, e183, hw, ep, s125_4 R2 h8 hi, s125_11 R2 h8 hi, q1, q2, le_not, aft_v, aft_n, Option.bind_some, rf_some, ck_i, ck_r, ck_n, nb0, nb1, nbi, Nat.reduceAdd, if_true, if_false, not_false_eq_true, not_true_eq_false]
  · rw [if_neg (fun w => q1 w.1)] at eph
    rw [eph, show J 0 = (0 : Int32) from rfl]
    simp only [↓reduceIte, e187_0, e187_1, e187_2, e187_3, e187_6, e187_9, e187_10, e187_13, e187_14, e187_15, e187_16, e187_19, e187_22, e187_23, e187_26, e187_27, e187_28, e187_29, e187_30, e187_33, e187_34, e187_35, e187_36, e187_39, e187_40, e187_41, e187_43, e187_46, e187_49, e187_50, e187_51, e187_53, e187_56, e187_57, e187_58, e187_59, e187_60, e187_63, e187_66, e187_67, e187_68, e187_70, e187_73, e187_74, e187_77, e187_78, e187_79, e187_81, e187_84, e187_87, e187_88, e187_89, e187_90, e187_92, e187_95, e187_96, e187_98, e187_100, e187_102, e187_103, e187_106, e187_107, e187_110, e187_111, e187_114, e187_116, e187_117, e187_118, e187_121, e187_122, e187_123, e187_125, e187_126, e187_129, e187_132, e187_135, e187_138, e187_141, isO70, gf9_6 kd_70, s125_1 R' h8 hi, s125_2 R' h8 hi, s125_13 R' h8 hi, s125_8 R' h8 hi, e183, hw, ep, s125_4 R2 h8 hi, q1, le_not, aft_v, aft_n, Option.bind_some, rf_some, ck_i, ck_r, ck_n, nb0, nb1, nbi, Nat.reduceAdd, if_true, if_false, not_false_eq_true, not_true_eq_false]
theorem s188_l (pF : Nat → Int32) {x : Nat} (hx : x < 144) : ∀ k j m, j + k = 12 * x + 12 → Run 188 7 [some (.ref (70)), some (.int (J x)), some (.int (m)), some (.int (J j))] [] (HC z γ π (ML β pF) η o od) = some (.inl (some (.int (mxF pF k j m))), (HC z γ π (ML β pF) η o od)) := by
  have e12 : 12 * J x + 12 = J (12 * x + 12) := by rw [show (12 : Int32) = J 12 from rfl, J_mul, J_add]
  intro k
  induction k with
  | zero =>
    intro j m hj
    have : j = 12 * x + 12 := by omega
    subst this
    simp only [↓reduceIte, e188_0, e188_1, e188_2, e188_4, e188_5, e188_6, e188_7, e188_8, e188_10, e188_11, e188_12, e188_14, e188_15, e188_18, e188_19, e188_22, e188_23, e188_24, e188_25, e188_28, e188_29, e188_32, e188_33, e188_34, e188_37, e188_38, e188_39, e188_42, e188_45, e188_46, e12, Int32.le_refl, mxF, aft_v, aft_n, Option.bind_some, rf_some, ck_i, ck_r, ck_n, nb0, nb1, nbi, Nat.reduceAdd, if_true, if_false, not_false_eq_true, not_true_eq_false]
  | succ k ih =>
    intro j m hj
    have hr : gaI (HC z γ π (ML β pF) η o od) 74 (J j) = some (pF j) := by rw [gaI41 kd_74 (in74 (by omega)), J_tn (by omega), ML_at _ _ (by omega)]
    rw [mxF, ← ih (j + 1) _ (by omega), e188_7]
    by_cases q : m < pF j <;> simp only [↓reduceIte, e188_0, e188_1, e188_2, e188_4, e188_5, e188_6, e188_8, e188_10, e188_11, e188_12, e188_14, e188_15, e188_18, e188_19, e188_22, e188_23, e188_24, e188_25, e188_28, e188_29, e188_32, e188_33, e188_34, e188_37, e188_38, e188_39, e188_42, e188_45, e188_46, e12, J_le (show 12 * x + 12 < 2147483648 by omega) (show j < 2147483648 by omega), show ¬ 12 * x + 12 ≤ j by omega, gf9_6 kd_70, hr, le_not, q, J_succ, aft_v, aft_n, Option.bind_some, rf_some, ck_i, ck_r, ck_n, nb0, nb1, nbi, Nat.reduceAdd, if_true, if_false, not_false_eq_true, not_true_eq_false]
theorem s188 (pF : Nat → Int32) {x : Nat} (hx : x < 144) : Run 188 0 [some (.ref (70)), some (.int (J x)), none, none] [] (HC z γ π (ML β pF) η o od) = some (.inl (some (.int (mxP pF x))), (HC z γ π (ML β pF) η o od)) := by
  have e := s188_l (z := z) (β := β) (γ := γ) (π := π) (η := η) (o := o) (od := od) pF hx 12 (12 * x) (-1) (by omega)
  unfold mxP
  rw [← e]
  have e12 : 12 * J x = J (12 * x) := by rw [show (12 : Int32) = J 12 from rfl, J_mul]
  simp only [↓reduceIte, e188_0, e188_1, e188_2, e188_4, e188_5, e188_6, e188_8, e188_10, e188_11, e188_12, e188_14, e188_15, e188_18, e188_19, e188_22, e188_23, e188_24, e188_25, e188_28, e188_29, e188_32, e188_33, e188_34, e188_37, e188_38, e188_39, e188_42, e188_45, e188_46, e12, aft_v, aft_n, Option.bind_some, rf_some, ck_i, ck_r, ck_n, nb0, nb1, nbi, Nat.reduceAdd, if_true, if_false, not_false_eq_true, not_true_eq_false]
theorem s189_l (H : Ok α n) (R : Rm (β 71) α n) (i : Int32) (pF : Nat → Int32) : ∀ k c v, c + k = szN α → Run 189 19 [some (.ref (70)), some (.int (i)), some (.int (v)), some (.int (J c))] [] (HC z γ π (ML β pF) η o od) = some (.inl (some (.int (cntF (fun x => ¬ mxP pF x = -1) k c v))), (HC z γ π (ML β pF) η o od)) := by
  have hsz := H.sz
  have R' := Rm_ML R pF
  intro k
  induction k with
  | zero =>
    intro c v hc
    have : c = szN α := by omega
    subst this
    simp only [↓reduceIte, e189_0, e189_1, e189_2, e189_5, e189_8, e189_9, e189_10, e189_11, e189_12, e189_15, e189_16, e189_17, e189_18, e189_19, e189_20, e189_21, e189_24, e189_27, e189_28, e189_29, e189_30, e189_33, e189_34, e189_37, e189_38, e189_41, e189_42, e189_43, e189_44, e189_47, e189_50, e189_51, isO70, s122 R', hsz.1, Int32.le_refl, cntF, aft_v, aft_n, Option.bind_some, rf_some, ck_i, ck_r, ck_n, nb0, nb1, nbi, Nat.reduceAdd, if_true, if_false, not_false_eq_true, not_true_eq_false]
  | succ k ih =>
    intro c v hc
    have e188 := s188 (z := z) (β := β) (γ := γ) (π := π) (η := η) (o := o) (od := od) pF (show c < 144 by omega)
    have cnd : ¬ J (szN α) ≤ J c := by rw [J_le (by omega) (by omega)]; omega
    rw [cntF, ← ih (c + 1) _ (by omega), e189_19]
    by_cases q : mxP pF c = -1
    · rw [if_neg (fun w => w q)]
      simp only [↓reduceIte, e189_0, e189_1, e189_2, e189_5, e189_8, e189_9, e189_10, e189_11, e189_12, e189_15, e189_16, e189_17, e189_18, e189_20, e189_21, e189_24, e189_27, e189_28, e189_29, e189_30, e189_33, e189_34, e189_37, e189_38, e189_41, e189_42, e189_43, e189_44, e189_47, e189_50, e189_51, isO70, s122 R', hsz.1, cnd, e188, q, Int32.add_zero, J_succ, aft_v, aft_n, Option.bind_some, rf_some, ck_i, ck_r, ck_n, nb0, nb1, nbi, Nat.reduceAdd, if_true, if_false, not_false_eq_true, not_true_eq_false]
    · rw [if_pos q]
      simp only [↓reduceIte, e189_0, e189_1, e189_2, e189_5, e189_8, e189_9, e189_10, e189_11, e189_12, e189_15, e189_16, e189_17, e189_18, e189_20, e189_21, e189_24, e189_27, e189_28, e189_29, e189_30, e189_33, e189_34, e189_37, e189_38, e189_41, e189_42, e189_43, e189_44, e189_47, e189_50, e189_51, isO70, s122 R', hsz.1, cnd, e188, q, J_succ, aft_v, aft_n, Option.bind_some, rf_some, ck_i, ck_r, ck_n, nb0, nb1, nbi, Nat.reduceAdd, if_true, if_false, not_false_eq_true, not_true_eq_false]
theorem s189 (H : Ok α n) (R : Rm (β 71) α n) {i : Nat} (hi : i < n) : ∃ β' r, Run 189 0 [some (.ref (70)), some (.int (J i)), none, none] [] (HC z γ π β η o od) = some (.inl (some (.int (r))), (HC z γ π β' η o od)) ∧ RV α n i r ∧ Rm (β' 71) α n ∧ Mq β β' ∧ β' 70 = β 70 := by
  have h8 := H.n8
  by_cases ha : 0 < α (7 + i) 3
  · obtain ⟨pF, f1, f2, f3⟩ := s187 (z := z) (β := β) (γ := γ) (π := π) (η := η) (o := o) (od := od) H R hi
    have e := s189_l (z := z) (β := β) (γ := γ) (π := π) (η := η) (o := o) (od := od) H R (J i) pF (szN α) 0 0 (by omega)
    rw [show J 0 = (0 : Int32) from rfl] at e
    refine ⟨ML β pF, cntF (fun x => ¬ mxP pF x = -1) (szN α) 0 0, ?_, Or.inr ⟨ha, pF, f2, ?_⟩, Rm_ML R pF, Mq_ML β pF, ML_o _ _ (by decide)⟩
    · rw [← e]
      simp only [↓reduceIte, e189_0, e189_1, e189_2, e189_5, e189_8, e189_9, e189_10, e189_11, e189_12, e189_15, e189_16, e189_17, e189_18, e189_20, e189_21, e189_24, e189_27, e189_28, e189_29, e189_30, e189_33, e189_34, e189_37, e189_38, e189_41, e189_42, e189_43, e189_44, e189_47, e189_50, e189_51, isO70, s127 R h8 hi, bi_t ha, i1_0, f1, aft_v, aft_n, Option.bind_some, rf_some, ck_i, ck_r, ck_n, nb0, nb1, nbi, Nat.reduceAdd, if_true, if_false, not_false_eq_true, not_true_eq_false]
    · exact (cnt_cut _ H.sz.2 (fun x h1 h2 => fun w => w (Vd_mx H f3 h1 h2))).symm
  · refine ⟨β, 0, ?_, Or.inl ⟨ha, rfl⟩, R, Mq_r β, rfl⟩
    simp only [↓reduceIte, e189_0, e189_1, e189_2, e189_5, e189_8, e189_9, e189_10, e189_11, e189_12, e189_15, e189_16, e189_17, e189_18, e189_20, e189_21, e189_24, e189_27, e189_28, e189_29, e189_30, e189_33, e189_34, e189_37, e189_38, e189_41, e189_42, e189_43, e189_44, e189_47, e189_50, e189_51, isO70, s127 R h8 hi, bi_f ha, aft_v, aft_n, Option.bind_some, rf_some, ck_i, ck_r, ck_n, nb0, nb1, nbi, Nat.reduceAdd, if_true, if_false, not_false_eq_true, not_true_eq_false]
theorem s190 (H : Ok α n) (R : Rm (β 71) α n) {i : Nat} (hi : i < n) : ∃ β' r, Run 190 0 [some (.ref (70)), some (.int (J i))] [] (HC z γ π β η o od) = some (.inl (some (.int (r))), (HC z γ π β' η o od)) ∧ RV α n i r ∧ Rm (β' 71) α n ∧ Mq β β' ∧ β' 70 5 = 0 := by
  obtain ⟨β', r, f1, f2, f3, f4, f5⟩ := s189 (z := z) (β := up2 β 70 5 0) (γ := γ) (π := π) (η := η) (o := o) (od := od) H (Rm_cd R 5 0) hi
  refine ⟨β', r, ?_, f2, f3, Mq_t (Mq_70 β (by decide) (by decide) 0) f4, by rw [f5, up2_rr]⟩
  simp only [↓reduceIte, e190_0, e190_1, e190_2, e190_3, e190_6, e190_9, e190_10, e190_13, e190_14, e190_17, e190_18, e190_21, e190_24, e190_25, e190_28, e190_29, e190_30, e190_33, isO70, s124 H R, bi_t (isShip_J H.hn H.n8 hi), i1_0, pf9_5 kd_70, gf9_5 kd_70, up2_rr, f1, aft_v, aft_n, Option.bind_some, rf_some, ck_i, ck_r, ck_n, nb0, nb1, nbi, Nat.reduceAdd, if_true, if_false, not_false_eq_true, not_true_eq_false]
theorem s190n (H : Ok α n) (R : Rm (β 71) α n) {c : Int32} (h : ¬ isShipC α 4 c) : Run 190 0 [some (.ref (70)), some (.int (c))] [] (HC z γ π β η o od) = some (.inl (some (.int (0))), (HC z γ π (up2 β 70 5 1) η o od)) := by
  simp only [↓reduceIte, e190_0, e190_1, e190_2, e190_3, e190_6, e190_9, e190_10, e190_13, e190_14, e190_17, e190_18, e190_21, e190_24, e190_25, e190_28, e190_29, e190_30, e190_33, isO70, s124 H R, bi_f h, i1_0, pf9_5 kd_70, gf9_5 kd_70, up2_rr, aft_v, aft_n, Option.bind_some, rf_some, ck_i, ck_r, ck_n, nb0, nb1, nbi, Nat.reduceAdd, if_true, if_false, not_false_eq_true, not_true_eq_false]
theorem s191 (H : Ok α n) (R : Rm (β 71) α n) {i : Nat} (hi : i < n) {x : Nat} (hx : x < 144) (hc : isCellC α 4 (J x)) : ∃ β' r, Run 191 0 [some (.ref (70)), some (.int (J i)), some (.int (J x))] [] (HC z γ π β η o od) = some (.inl (some (.int (r))), (HC z γ π β' η o od)) ∧ PV α n i x r ∧ Rm (β' 71) α n ∧ Mq β β' ∧ β' 70 5 = 0 := by
  have h8 := H.n8
  have R0 := Rm_cd R 5 0
  by_cases ha : 0 < α (7 + i) 3
  · obtain ⟨pF, f1, f2, f3⟩ := s187 (z := z) (β := up2 β 70 5 0) (γ := γ) (π := π) (η := η) (o := o) (od := od) H R0 hi
    have e := s188 (z := z) (β := up2 β 70 5 0) (γ := γ) (π := π) (η := η) (o := o) (od := od) pF hx
    refine ⟨ML (up2 β 70 5 0) pF, mxP pF x, ?_, Or.inr ⟨ha, pF, f2, rfl⟩, Rm_ML R0 pF, Mq_t (Mq_70 β (by decide) (by decide) 0) (Mq_ML _ pF), by rw [ML_o _ _ (by decide), up2_rr]⟩
    simp only [↓reduceIte, e191_0, e191_1, e191_2, e191_3, e191_6, e191_9, e191_10, e191_11, e191_14, e191_17, e191_18, e191_21, e191_22, e191_25, e191_26, e191_29, e191_32, e191_33, e191_34, e191_37, e191_40, e191_41, e191_44, e191_47, e191_48, e191_51, e191_52, e191_53, e191_54, e191_55, e191_58, e191_59, e191_60, e191_63, isO70, s124 H R, bi_t (isShip_J H.hn H.n8 hi), s123 H R, bi_t hc, i1_0, pf9_5 kd_70, gf9_5 kd_70, up2_rr, s127 R0 h8 hi, bi_t ha, f1, e, aft_v, aft_n, Option.bind_some, rf_some, ck_i, ck_r, ck_n, nb0, nb1, nbi, Nat.reduceAdd, if_true, if_false, not_false_eq_true, not_true_eq_false]
  · refine ⟨up2 β 70 5 0, -1, ?_, Or.inl ⟨ha, rfl⟩, R0, Mq_70 β (by decide) (by decide) 0, up2_rr ..⟩
    simp only [↓reduceIte, e191_0, e191_1, e191_2, e191_3, e191_6, e191_9, e191_10, e191_11, e191_14, e191_17, e191_18, e191_21, e191_22, e191_25, e191_26, e191_29, e191_32, e191_33, e191_34, e191_37, e191_40, e191_41, e191_44, e191_47, e191_48, e191_51, e191_52, e191_53, e191_54, e191_55, e191_58, e191_59, e191_60, e191_63, isO70, s124 H R, bi_t (isShip_J H.hn H.n8 hi), s123 H R, bi_t hc, i1_0, pf9_5 kd_70, gf9_5 kd_70, up2_rr, s127 R0 h8 hi, bi_f ha, aft_v, aft_n, Option.bind_some, rf_some, ck_i, ck_r, ck_n, nb0, nb1, nbi, Nat.reduceAdd, if_true, if_false, not_false_eq_true, not_true_eq_false]
theorem s191n (H : Ok α n) (R : Rm (β 71) α n) {c x : Int32} (h : ¬ (isShipC α 4 c ∧ isCellC α 4 x)) : Run 191 0 [some (.ref (70)), some (.int (c)), some (.int (x))] [] (HC z γ π β η o od) = some (.inl (some (.int (0))), (HC z γ π (up2 β 70 5 1) η o od)) := by
  by_cases q : isShipC α 4 c
  · have q2 : ¬ isCellC α 4 x := fun w => h ⟨q, w⟩
    simp only [↓reduceIte, e191_0, e191_1, e191_2, e191_3, e191_6, e191_9, e191_10, e191_11, e191_14, e191_17, e191_18, e191_21, e191_22, e191_25, e191_26, e191_29, e191_32, e191_33, e191_34, e191_37, e191_40, e191_41, e191_44, e191_47, e191_48, e191_51, e191_52, e191_53, e191_54, e191_55, e191_58, e191_59, e191_60, e191_63, isO70, s124 H R, bi_t q, s123 H R, bi_f q2, i1_0, pf9_5 kd_70, gf9_5 kd_70, up2_rr, aft_v, aft_n, Option.bind_some, rf_some, ck_i, ck_r, ck_n, nb0, nb1, nbi, Nat.reduceAdd, if_true, if_false, not_false_eq_true, not_true_eq_false]
  · simp only [↓reduceIte, e191_0, e191_1, e191_2, e191_3, e191_6, e191_9, e191_10, e191_11, e191_14, e191_17, e191_18, e191_21, e191_22, e191_25, e191_26, e191_29, e191_32, e191_33, e191_34, e191_37, e191_40, e191_41, e191_44, e191_47, e191_48, e191_51, e191_52, e191_53, e191_54, e191_55, e191_58, e191_59, e191_60, e191_63, isO70, s124 H R, bi_f q, i1_0, pf9_5 kd_70, gf9_5 kd_70, up2_rr, aft_v, aft_n, Option.bind_some, rf_some, ck_i, ck_r, ck_n, nb0, nb1, nbi, Nat.reduceAdd, if_true, if_false, not_false_eq_true, not_true_eq_false]
end S70
section S70o
variable {z : Zr} {α β γ : Mem} {π : Nat → Nat} {η : Int64} {o : Nat → Int64} {od : Nat → UInt64} {n l k : Nat}
theorem mh100 : mHh 100 = [] := rfl
theorem mh101 : mHh 101 = [] := rfl
theorem s100 (H : Ok α n) {i : Nat} (hi : i < n) : ∃ α' r, Run 100 0 [some (.ref (3)), some (.int (J i))] [] (HC z α π β η o od) = some (.inl (some (.int (r))), (HC z α' π β η o od)) ∧ Fc α α' ∧ RV α n i r := by
  have h8 := H.n8
  obtain ⟨α', r, f1, f2, f3⟩ := s1 (z := z) (β := β) (π := π) (η := η) (o := o) (od := od) H hi
  refine ⟨α', r, ?_, f2, f3⟩
  simp only [↓reduceIte, e100_0, e100_1, e100_2, e100_5, e100_6, e100_9, e100_10, e100_13, e100_16, e100_17, e100_18, e100_21, isO3, s111 _ (isShip_J H.hn H.n8 hi), gf8_0 kd3, gf8_5 kd3, gf6_7 kd4, gaR21 kd6 (inB_J (show i < 8 by omega) (by omega)), J_tn (show i < 2147483648 by omega), isO_HC kd64 (show 0 ≤ 9 by decide), f1, aft_v, aft_n, Option.bind_some, rf_some, ck_i, ck_r, ck_n, nb0, nb1, nbi, Nat.reduceAdd, if_true, if_false, not_false_eq_true, not_true_eq_false]
theorem s100n {c : Int32} (h : ¬ isShipC α 4 c) : Run 100 0 [some (.ref (3)), some (.int (c))] [] (HC z α π β η o od) = some (.inr "java/lang/IndexOutOfBoundsException", HC (zb z) α π β η o od) := by
  simp only [↓reduceIte, e100_0, e100_1, e100_2, e100_5, e100_6, e100_9, e100_10, e100_13, e100_16, e100_17, e100_18, e100_21, isO3, s111n _ h, aft_x mh100, aft_v, aft_n, Option.bind_some, rf_some, ck_i, ck_r, ck_n, nb0, nb1, nbi, Nat.reduceAdd, if_true, if_false, not_false_eq_true, not_true_eq_false]
theorem s101 (H : Ok α n) {i : Nat} (hi : i < n) {x : Nat} (hx : x < 144) (hc : isCellC α 4 (J x)) : ∃ α' r, Run 101 0 [some (.ref (3)), some (.int (J i)), some (.int (J x))] [] (HC z α π β η o od) = some (.inl (some (.int (r))), (HC z α' π β η o od)) ∧ Fc α α' ∧ PV α n i x r := by
  have h8 := H.n8
  obtain ⟨α', r, f1, f2, f3⟩ := s2 (z := z) (β := β) (π := π) (η := η) (o := o) (od := od) H hi hx hc
  refine ⟨α', r, ?_, f2, f3⟩
  simp only [↓reduceIte, e101_0, e101_1, e101_2, e101_5, e101_6, e101_7, e101_10, e101_11, e101_14, e101_15, e101_18, e101_21, e101_22, e101_23, e101_24, e101_27, isO3, s111 _ (isShip_J H.hn H.n8 hi), gf8_0 kd3, gf8_5 kd3, gf6_7 kd4, gaR21 kd6 (inB_J (show i < 8 by omega) (by omega)), J_tn (show i < 2147483648 by omega), isO_HC kd64 (show 0 ≤ 9 by decide), s110 _ hc, f1, aft_v, aft_n, Option.bind_some, rf_some, ck_i, ck_r, ck_n, nb0, nb1, nbi, Nat.reduceAdd, if_true, if_false, not_false_eq_true, not_true_eq_false]
theorem s101n {c x : Int32} (h : ¬ (isShipC α 4 c ∧ isCellC α 4 x)) : Run 101 0 [some (.ref (3)), some (.int (c)), some (.int (x))] [] (HC z α π β η o od) = some (.inr "java/lang/IndexOutOfBoundsException", HC (zb z) α π β η o od) := by
  by_cases q : isShipC α 4 c
  · have q2 : ¬ isCellC α 4 x := fun w => h ⟨q, w⟩
    simp only [↓reduceIte, e101_0, e101_1, e101_2, e101_5, e101_6, e101_7, e101_10, e101_11, e101_14, e101_15, e101_18, e101_21, e101_22, e101_23, e101_24, e101_27, isO3, s111 _ q, s110n _ q2, aft_x mh101, aft_v, aft_n, Option.bind_some, rf_some, ck_i, ck_r, ck_n, nb0, nb1, nbi, Nat.reduceAdd, if_true, if_false, not_false_eq_true, not_true_eq_false]
  · simp only [↓reduceIte, e101_0, e101_1, e101_2, e101_5, e101_6, e101_7, e101_10, e101_11, e101_14, e101_15, e101_18, e101_21, e101_22, e101_23, e101_24, e101_27, isO3, s111n _ q, aft_x mh101, aft_v, aft_n, Option.bind_some, rf_some, ck_i, ck_r, ck_n, nb0, nb1, nbi, Nat.reduceAdd, if_true, if_false, not_false_eq_true, not_true_eq_false]
theorem Fs_fc {α α' : Mem} (h : Fc α α') : Fs α α' := fun j _ w => h j w
theorem Inv_fc (I : Inv α π β n l k) {α' β' : Mem} (hF : Fc α α') (R : Rm (β' 71) α n) (hM : Mq β β') : Inv α' π β' n l k := by
  have s : Sm α' α n := Sm_of I.1.n8 (Fc_sq hF)
  exact Inv_up I (Fs_fc hF) (Ok_sm s I.1) (Dj_sm s I.2.1) (Rm_sm I.1.n8 s (fun _ _ => rfl) R) hM
theorem op_reach (I : Inv α π β n l k) (c : Int32) : Res (fun hh => Run 229 0 [some (.ref (3)), some (.int (c)), some (.ref (75)), none] [] hh) (fun hh => Run 190 0 [some (.ref (70)), some (.int (c))] [] hh) z α π β η o od := by
  by_cases p : isShipC α 4 c
  · obtain ⟨i, hi, rfl⟩ := isShip_ex I.1.hn I.1.n8 p
    obtain ⟨α', r, f1, f2, f3⟩ := s100 (z := z) (β := β) (π := π) (η := η) (o := o) (od := od) I.1 hi
    obtain ⟨β', r2, g1, g2, g3, g4, g5⟩ := s190 (z := z) (β := β) (γ := α') (π := π) (η := η) (o := vp_updL o 0 r.toInt64) (od := od) I.1 I.2.2.1 hi
    rw [RV_fun g2 f3] at g1
    exact Res_m (w229_ok _ f1) g1 g5 (Inv_fc I f2 g3 g4)
  · exact Res_thr (kk := 1) (by decide) (w229_x1 _ (s100n p)) (s190n I.1 I.2.2.1 p) I
theorem op_points (I : Inv α π β n l k) (c x : Int32) : Res (fun hh => Run 230 0 [some (.ref (3)), some (.int (c)), some (.int (x)), some (.ref (75)), none] [] hh) (fun hh => Run 191 0 [some (.ref (70)), some (.int (c)), some (.int (x))] [] hh) z α π β η o od := by
  by_cases p : isShipC α 4 c ∧ isCellC α 4 x
  · obtain ⟨i, hi, rfl⟩ := isShip_ex I.1.hn I.1.n8 p.1
    obtain ⟨y, hy, rfl⟩ := cell_J I.1 p.2
    obtain ⟨α', r, f1, f2, f3⟩ := s101 (z := z) (β := β) (π := π) (η := η) (o := o) (od := od) I.1 hi hy p.2
    obtain ⟨β', r2, g1, g2, g3, g4, g5⟩ := s191 (z := z) (β := β) (γ := α') (π := π) (η := η) (o := vp_updL o 0 r.toInt64) (od := od) I.1 I.2.2.1 hi hy p.2
    rw [PV_fun g2 f3] at g1
    exact Res_m (w230_ok _ _ f1) g1 g5 (Inv_fc I f2 g3 g4)
  · exact Res_thr (kk := 1) (by decide) (w230_x1 _ _ (s101n p)) (s191n I.1 I.2.2.1 p) I
end S70o
