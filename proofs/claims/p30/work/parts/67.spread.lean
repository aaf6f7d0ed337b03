/-! the class' chart: what one point does from a stand -/
def aE (α : Mem) (n i s : Nat) : Option Nat := if angN (s % 12 / 2) (wdN α) = 3 then none else if nbC α (J (s / 12)) (s % 12 / 2) = α (7 + i) 1 ∨ freeC α n (nbC α (J (s / 12)) (s % 12 / 2)) then some (12 * (nbC α (J (s / 12)) (s % 12 / 2)).toNatClampNeg + (2 * (s % 12 / 2) + 1)) else none
def tE (α : Mem) (s h : Nat) : Option Nat := if s % 2 = 1 ∨ ¬ angN h (wdN α) = 3 then some (12 * (s / 12) + (2 * h + 0)) else none
def Ed (α : Mem) (n i s t : Nat) : Prop := aE α n i s = some t ∨ tE α s ((s % 12 / 2 + 1) % 6) = some t ∨ tE α s ((s % 12 / 2 + 5) % 6) = some t
theorem wd_sq {α α1 : Mem} (h : Sq α α1) : wdN α1 = wdN α := by unfold wdN; rw [h 4 (by decide) (by decide)]
theorem aE_sq {α α1 : Mem} {n i : Nat} (h : Sq α α1) (h8 : n ≤ 8) (hi : i < 8) (s : Nat) : aE α1 n i s = aE α n i s := by
  unfold aE
  rw [wd_sq h, nb_sq h, h (7 + i) (by omega) (by omega)]
  by_cases q : angN (s % 12 / 2) (wdN α) = 3
  · rw [if_pos q, if_pos q]
  · rw [if_neg q, if_neg q]
    by_cases w : nbC α (J (s / 12)) (s % 12 / 2) = α (7 + i) 1 ∨ freeC α n (nbC α (J (s / 12)) (s % 12 / 2))
    · rw [if_pos w, if_pos (by rw [free_sq h h8]; exact w)]
    · rw [if_neg w, if_neg (by rw [free_sq h h8]; exact w)]
theorem tE_sq {α α1 : Mem} (h : Sq α α1) (s e : Nat) : tE α1 s e = tE α s e := by
  unfold tE
  rw [wd_sq h]
theorem Ed_v {α : Mem} {n i s t : Nat} (H : Ok α n) (hi : i < n) (hs : s < 1728) (hc : isCellC α 4 (J (s / 12))) (h : Ed α n i s t) : t < 1728 ∧ isCellC α 4 (J (t / 12)) := by
  have hsh : s % 12 / 2 < 6 := by omega
  rcases h with h | h | h
  · unfold aE at h
    by_cases q : angN (s % 12 / 2) (wdN α) = 3
    · rw [if_pos q] at h; cases h
    · rw [if_neg q] at h
      by_cases w : nbC α (J (s / 12)) (s % 12 / 2) = α (7 + i) 1 ∨ freeC α n (nbC α (J (s / 12)) (s % 12 / 2))
      · rw [if_pos w] at h
        have hcell : isCellC α 4 (nbC α (J (s / 12)) (s % 12 / 2)) := by
          rcases w with w | w
          · rw [w]; exact H.isC hi
          · exact w.1
        obtain ⟨x, hx, e⟩ := cell_J H hcell
        rw [e] at h hcell
        rw [J_tn (by omega)] at h
        have ht := Option.some.inj h
        rw [← ht, show (12 * x + (2 * (s % 12 / 2) + 1)) / 12 = x by omega]
        exact ⟨by omega, hcell⟩
      · rw [if_neg w] at h; cases h
  all_goals
    unfold tE at h
    split at h
    · have ht := Option.some.inj h
      have he : ∀ e, e < 6 → (12 * (s / 12) + (2 * e + 0)) / 12 = s / 12 := fun e he => by omega
      rw [← ht, he _ (Nat.mod_lt _ (by omega))]
      have := Nat.mod_lt (s % 12 / 2 + 1) (show 6 > 0 by omega)
      have := Nat.mod_lt (s % 12 / 2 + 5) (show 6 > 0 by omega)
      exact ⟨by omega, hc⟩
    · cases h
theorem Gd_uo {pt : Nat → Int32} {v : Int32} (G : Gd pt v) (o : Option Nat) : Gd (uo pt v o) v := by
  cases o with
  | none => exact G
  | some s => exact Gd_upt G s
theorem trn5 : ∀ h, h < 6 → J h + 6 - 1 - (J h + 6 - 1) / 6 * 6 = J ((h + 5) % 6) := by decide
theorem trn1 : ∀ h, h < 6 → J h + 1 - (J h + 1) / 6 * 6 = J ((h + 1) % 6) := by decide
section S67
variable {z : Zr} {α β γ : Mem} {π : Nat → Nat} {η : Int64} {o : Nat → Int64} {od : Nat → UInt64} {n k : Nat}
theorem s4_a (H : Ok α n) {i : Nat} (hi : i < n) {pt : Nat → Int32} {q a e : Nat} {v v2 : Int32} {f : Nat → Int32} (S : St α pt q a e v v2 f) (hv : 0 ≤ v.toInt) (G : Gd pt v) (h2 : ¬ v2 = v) (h2m : ¬ v2 = -1) {s : Nat} (hs : s < 1728) (hc : isCellC α 4 (J (s / 12))) : ∃ α' q' u, Run 4 0 [some (.ref (64)), some (.ref (7 + i)), some (.int (J s)), some (.int (v)), none, none, none, none, none] [] (HC z α π β η o od) = Run 4 84 [some (.ref (64)), some (.ref (7 + i)), some (.int (J s)), some (.int (v)), some (.int (J (s / 12))), some (.int (J (s % 12 / 2))), some (.int (J (s % 2))), u, none] [] (HC z α' π β η o od) ∧ Fc α α' ∧ St α' (uo pt v (aE α n i s)) q' a e v v2 f := by
  have h8 := H.n8
  have hh : s % 12 / 2 < 6 := by omega
  have hw : s % 2 = 0 ∨ s % 2 = 1 := by omega
  have kc := kd_ship (show i < 8 by omega)
  have q12 : ¬ (12 : Int32) = 0 := by decide
  have ean := ang3 hh H.wdJ.1
  have enb := s53 (z := z) (β := β) (π := π) (η := η) (o := o) (od := od) H hc hh
  have efr := s51 (z := z) (β := β) (π := π) (η := η) (o := o) (od := od) H (nbC α (J (s / 12)) (s % 12 / 2))
  have e57 := t57 (z := z) (β := β) (π := π) (η := η) (o := o) (od := od) H hh
  unfold aE
  by_cases q1 : angN (s % 12 / 2) (wdN α) = 3
  · rw [if_pos q1]
    refine ⟨α, q, none, ?_, Fc_r α, S⟩
    rcases hw with w | w <;> simp only [↓reduceIte, e4_0, e4_1, e4_3, e4_4, e4_6, e4_7, e4_9, e4_10, e4_11, e4_12, e4_14, e4_15, e4_16, e4_17, e4_20, e4_21, e4_24, e4_25, e4_27, e4_28, e4_31, e4_33, e4_36, e4_37, e4_40, e4_41, e4_44, e4_46, e4_48, e4_51, e4_53, e4_55, e4_56, e4_59, e4_62, e4_63, e4_66, e4_68, e4_71, e4_74, e4_75, e4_77, e4_79, e4_80, e4_81, e4_86, e4_87, e4_88, e4_90, e4_91, e4_93, e4_95, e4_98, e4_99, e4_102, e4_104, e4_107, e4_108, e4_111, e4_112, e4_114, e4_116, e4_117, e4_118, e4_121, e4_123, e4_125, e4_126, e4_127, e4_128, e4_130, e4_131, e4_133, e4_135, e4_138, e4_139, e4_142, e4_144, e4_147, e4_148, e4_151, e4_152, e4_154, e4_156, e4_157, e4_158, e4_161, gf0_0 kd64, isO4, J_div12 (show s < 2147483648 by omega), J_mod12 (show s < 2147483648 by omega), J_div2 (show s % 12 < 2147483648 by omega), J_div2 (show s < 2147483648 by omega), J_mod2 (show s < 2147483648 by omega), q12, q2', w, show J 0 = (0 : Int32) from rfl, show J 1 = (1 : Int32) from rfl, i1_0, e57, ean.mpr q1, aft_v, aft_n, Option.bind_some, rf_some, ck_i, ck_r, ck_n, nb0, nb1, nbi, Nat.reduceAdd, if_true, if_false, not_false_eq_true, not_true_eq_false]
  · rw [if_neg q1]
    by_cases q2 : nbC α (J (s / 12)) (s % 12 / 2) = α (7 + i) 1
    · rw [if_pos (Or.inl q2)]
      obtain ⟨x, hx, ex⟩ := cell_J H (H.isC hi)
      have hcx : isCellC α 4 (J x) := by rw [← ex]; exact H.isC hi
      obtain ⟨α', q', f1, f2, f3⟩ := s5 (z := z) (β := β) (π := π) (η := η) (o := o) (od := od) S hv G h2 h2m hx hcx hh (w := 1) (by omega)
      rw [q2] at enb
      rw [q2, ex, J_tn (by omega)]
      refine ⟨α', q', some (.int (J x)), ?_, f2, f3⟩
      rw [ex] at enb
      rw [show J 1 = (1 : Int32) from rfl] at f1
      rcases hw with w | w <;> simp only [↓reduceIte, e4_0, e4_1, e4_3, e4_4, e4_6, e4_7, e4_9, e4_10, e4_11, e4_12, e4_14, e4_15, e4_16, e4_17, e4_20, e4_21, e4_24, e4_25, e4_27, e4_28, e4_31, e4_33, e4_36, e4_37, e4_40, e4_41, e4_44, e4_46, e4_48, e4_51, e4_53, e4_55, e4_56, e4_59, e4_62, e4_63, e4_66, e4_68, e4_71, e4_74, e4_75, e4_77, e4_79, e4_80, e4_81, e4_86, e4_87, e4_88, e4_90, e4_91, e4_93, e4_95, e4_98, e4_99, e4_102, e4_104, e4_107, e4_108, e4_111, e4_112, e4_114, e4_116, e4_117, e4_118, e4_121, e4_123, e4_125, e4_126, e4_127, e4_128, e4_130, e4_131, e4_133, e4_135, e4_138, e4_139, e4_142, e4_144, e4_147, e4_148, e4_151, e4_152, e4_154, e4_156, e4_157, e4_158, e4_161, gf0_0 kd64, isO4, isO_HC kd64 (show 0 ≤ 9 by decide), gf7_1 kc, ex, J_div12 (show s < 2147483648 by omega), J_mod12 (show s < 2147483648 by omega), J_div2 (show s % 12 < 2147483648 by omega), J_div2 (show s < 2147483648 by omega), J_mod2 (show s < 2147483648 by omega), q12, q2', w, show J 0 = (0 : Int32) from rfl, show J 1 = (1 : Int32) from rfl, i1_0, e57, ean, q1, enb, f1, aft_v, aft_n, Option.bind_some, rf_some, ck_i, ck_r, ck_n, nb0, nb1, nbi, Nat.reduceAdd, if_true, if_false, not_false_eq_true, not_true_eq_false]
    · by_cases q3 : freeC α n (nbC α (J (s / 12)) (s % 12 / 2))
      · rw [if_pos (Or.inr q3)]
        obtain ⟨x, hx, ex⟩ := cell_J H q3.1
        have hcx : isCellC α 4 (J x) := by rw [← ex]; exact q3.1
        obtain ⟨α', q', f1, f2, f3⟩ := s5 (z := z) (β := β) (π := π) (η := η) (o := o) (od := od) S hv G h2 h2m hx hcx hh (w := 1) (by omega)
        rw [bi_t q3] at efr
        rw [ex] at enb efr q2
        rw [ex, J_tn (by omega)]
        refine ⟨α', q', some (.int (J x)), ?_, f2, f3⟩
        rw [show J 1 = (1 : Int32) from rfl] at f1
        rcases hw with w | w <;> simp only [↓reduceIte, e4_0, e4_1, e4_3, e4_4, e4_6, e4_7, e4_9, e4_10, e4_11, e4_12, e4_14, e4_15, e4_16, e4_17, e4_20, e4_21, e4_24, e4_25, e4_27, e4_28, e4_31, e4_33, e4_36, e4_37, e4_40, e4_41, e4_44, e4_46, e4_48, e4_51, e4_53, e4_55, e4_56, e4_59, e4_62, e4_63, e4_66, e4_68, e4_71, e4_74, e4_75, e4_77, e4_79, e4_80, e4_81, e4_86, e4_87, e4_88, e4_90, e4_91, e4_93, e4_95, e4_98, e4_99, e4_102, e4_104, e4_107, e4_108, e4_111, e4_112, e4_114, e4_116, e4_117, e4_118, e4_121, e4_123, e4_125, e4_126, e4_127, e4_128, e4_130, e4_131, e4_133, e4_135, e4_138, e4_139, e4_142, e4_144, e4_147, e4_148, e4_151, e4_152, e4_154, e4_156, e4_157, e4_158, e4_161, gf0_0 kd64, isO4, isO_HC kd64 (show 0 ≤ 9 by decide), gf7_1 kc, J_div12 (show s < 2147483648 by omega), J_mod12 (show s < 2147483648 by omega), J_div2 (show s % 12 < 2147483648 by omega), J_div2 (show s < 2147483648 by omega), J_mod2 (show s < 2147483648 by omega), q12, q2', w, show J 0 = (0 : Int32) from rfl, show J 1 = (1 : Int32) from rfl, i1_0, e57, ean, q1, enb, q2, efr, f1, aft_v, aft_n, Option.bind_some, rf_some, ck_i, ck_r, ck_n, nb0, nb1, nbi, Nat.reduceAdd, if_true, if_false, not_false_eq_true, not_true_eq_false]
      · rw [if_neg (fun w => w.elim q2 q3)]
        rw [bi_f q3] at efr
        refine ⟨α, q, some (.int (nbC α (J (s / 12)) (s % 12 / 2))), ?_, Fc_r α, S⟩
        rcases hw with w | w <;> simp only [↓reduceIte, e4_0, e4_1, e4_3, e4_4, e4_6, e4_7, e4_9, e4_10, e4_11, e4_12, e4_14, e4_15, e4_16, e4_17, e4_20, e4_21, e4_24, e4_25, e4_27, e4_28, e4_31, e4_33, e4_36, e4_37, e4_40, e4_41, e4_44, e4_46, e4_48, e4_51, e4_53, e4_55, e4_56, e4_59, e4_62, e4_63, e4_66, e4_68, e4_71, e4_74, e4_75, e4_77, e4_79, e4_80, e4_81, e4_86, e4_87, e4_88, e4_90, e4_91, e4_93, e4_95, e4_98, e4_99, e4_102, e4_104, e4_107, e4_108, e4_111, e4_112, e4_114, e4_116, e4_117, e4_118, e4_121, e4_123, e4_125, e4_126, e4_127, e4_128, e4_130, e4_131, e4_133, e4_135, e4_138, e4_139, e4_142, e4_144, e4_147, e4_148, e4_151, e4_152, e4_154, e4_156, e4_157, e4_158, e4_161, gf0_0 kd64, isO4, gf7_1 kc, J_div12 (show s < 2147483648 by omega), J_mod12 (show s < 2147483648 by omega), J_div2 (show s % 12 < 2147483648 by omega), J_div2 (show s < 2147483648 by omega), J_mod2 (show s < 2147483648 by omega), q12, q2', w, show J 0 = (0 : Int32) from rfl, show J 1 = (1 : Int32) from rfl, i1_0, e57, ean, q1, enb, q2, efr, aft_v, aft_n, Option.bind_some, rf_some, ck_i, ck_r, ck_n, nb0, nb1, nbi, Nat.reduceAdd, if_true, if_false, not_false_eq_true, not_true_eq_false]
theorem s4_b (H : Ok α n) {i : Nat} {pt : Nat → Int32} {q a e : Nat} {v v2 : Int32} {f : Nat → Int32} (S : St α pt q a e v v2 f) (hv : 0 ≤ v.toInt) (G : Gd pt v) (h2 : ¬ v2 = v) (h2m : ¬ v2 = -1) {s : Nat} (hs : s < 1728) (hc : isCellC α 4 (J (s / 12))) (u : Option Value) : ∃ α' q', Run 4 84 [some (.ref (64)), some (.ref (7 + i)), some (.int (J s)), some (.int (v)), some (.int (J (s / 12))), some (.int (J (s % 12 / 2))), some (.int (J (s % 2))), u, none] [] (HC z α π β η o od) = Run 4 121 [some (.ref (64)), some (.ref (7 + i)), some (.int (J s)), some (.int (v)), some (.int (J (s / 12))), some (.int (J (s % 12 / 2))), some (.int (J (s % 2))), some (.int (J ((s % 12 / 2 + 1) % 6))), none] [] (HC z α' π β η o od) ∧ Fc α α' ∧ St α' (uo pt v (tE α s ((s % 12 / 2 + 1) % 6))) q' a e v v2 f := by
  have hh : s % 12 / 2 < 6 := by omega
  have hr : (s % 12 / 2 + 1) % 6 < 6 := Nat.mod_lt _ (by omega)
  have hw : s % 2 = 0 ∨ s % 2 = 1 := by omega
  have ean := ang3 hr H.wdJ.1
  have e57 := t57 (z := z) (β := β) (π := π) (η := η) (o := o) (od := od) H hr
  have et := trn1 _ hh
  obtain ⟨α', q', f1, f2, f3⟩ := s5 (z := z) (β := β) (π := π) (η := η) (o := o) (od := od) S hv G h2 h2m (show s / 12 < 144 by omega) hc hr (w := 0) (by omega)
  rw [show J 0 = (0 : Int32) from rfl] at f1
  unfold tE
  rcases hw with w | w
  · by_cases q1 : angN ((s % 12 / 2 + 1) % 6) (wdN α) = 3
    · rw [if_neg (fun x => x.elim (fun y => by omega) (fun y => y q1))]
      refine ⟨α, q, ?_, Fc_r α, S⟩
      simp only [↓reduceIte, e4_0, e4_1, e4_3, e4_4, e4_6, e4_7, e4_9, e4_10, e4_11, e4_12, e4_14, e4_15, e4_16, e4_17, e4_20, e4_21, e4_24, e4_25, e4_27, e4_28, e4_31, e4_33, e4_36, e4_37, e4_40, e4_41, e4_44, e4_46, e4_48, e4_51, e4_53, e4_55, e4_56, e4_59, e4_62, e4_63, e4_66, e4_68, e4_71, e4_74, e4_75, e4_77, e4_79, e4_80, e4_81, e4_86, e4_87, e4_88, e4_90, e4_91, e4_93, e4_95, e4_98, e4_99, e4_102, e4_104, e4_107, e4_108, e4_111, e4_112, e4_114, e4_116, e4_117, e4_118, e4_123, e4_125, e4_126, e4_127, e4_128, e4_130, e4_131, e4_133, e4_135, e4_138, e4_139, e4_142, e4_144, e4_147, e4_148, e4_151, e4_152, e4_154, e4_156, e4_157, e4_158, e4_161, e4_84, gf0_0 kd64, isO4, et, q6, w, show J 0 = (0 : Int32) from rfl, e57, ean.mpr q1, aft_v, aft_n, Option.bind_some, rf_some, ck_i, ck_r, ck_n, nb0, nb1, nbi, Nat.reduceAdd, if_true, if_false, not_false_eq_true, not_true_eq_false]
    · rw [if_pos (Or.inr q1)]
      refine ⟨α', q', ?_, f2, f3⟩
      simp only [↓reduceIte, e4_0, e4_1, e4_3, e4_4, e4_6, e4_7, e4_9, e4_10, e4_11, e4_12, e4_14, e4_15, e4_16, e4_17, e4_20, e4_21, e4_24, e4_25, e4_27, e4_28, e4_31, e4_33, e4_36, e4_37, e4_40, e4_41, e4_44, e4_46, e4_48, e4_51, e4_53, e4_55, e4_56, e4_59, e4_62, e4_63, e4_66, e4_68, e4_71, e4_74, e4_75, e4_77, e4_79, e4_80, e4_81, e4_86, e4_87, e4_88, e4_90, e4_91, e4_93, e4_95, e4_98, e4_99, e4_102, e4_104, e4_107, e4_108, e4_111, e4_112, e4_114, e4_116, e4_117, e4_118, e4_123, e4_125, e4_126, e4_127, e4_128, e4_130, e4_131, e4_133, e4_135, e4_138, e4_139, e4_142, e4_144, e4_147, e4_148, e4_151, e4_152, e4_154, e4_156, e4_157, e4_158, e4_161, e4_84, gf0_0 kd64, isO4, isO_HC kd64 (show 0 ≤ 9 by decide), et, q6, w, show J 0 = (0 : Int32) from rfl, e57, ean, q1, f1, aft_v, aft_n, Option.bind_some, rf_some, ck_i, ck_r, ck_n, nb0, nb1, nbi, Nat.reduceAdd, if_true, if_false, not_false_eq_true, not_true_eq_false]
  · rw [if_pos (Or.inl w)]
    refine ⟨α', q', ?_, f2, f3⟩
    simp only [↓reduceIte, e4_0, e4_1, e4_3, e4_4, e4_6, e4_7, e4_9, e4_10, e4_11, e4_12, e4_14, e4_15, e4_16, e4_17, e4_20, e4_21, e4_24, e4_25, e4_27, e4_28, e4_31, e4_33, e4_36, e4_37, e4_40, e4_41, e4_44, e4_46, e4_48, e4_51, e4_53, e4_55, e4_56, e4_59, e4_62, e4_63, e4_66, e4_68, e4_71, e4_74, e4_75, e4_77, e4_79, e4_80, e4_81, e4_86, e4_87, e4_88, e4_90, e4_91, e4_93, e4_95, e4_98, e4_99, e4_102, e4_104, e4_107, e4_108, e4_111, e4_112, e4_114, e4_116, e4_117, e4_118, e4_123, e4_125, e4_126, e4_127, e4_128, e4_130, e4_131, e4_133, e4_135, e4_138, e4_139, e4_142, e4_144, e4_147, e4_148, e4_151, e4_152, e4_154, e4_156, e4_157, e4_158, e4_161, e4_84, gf0_0 kd64, isO4, isO_HC kd64 (show 0 ≤ 9 by decide), et, q6, w, show J 1 = (1 : Int32) from rfl, i1_0, f1, aft_v, aft_n, Option.bind_some, rf_some, ck_i, ck_r, ck_n, nb0, nb1, nbi, Nat.reduceAdd, if_true, if_false, not_false_eq_true, not_true_eq_false]
theorem s4_c (H : Ok α n) {i : Nat} {pt : Nat → Int32} {q a e : Nat} {v v2 : Int32} {f : Nat → Int32} (S : St α pt q a e v v2 f) (hv : 0 ≤ v.toInt) (G : Gd pt v) (h2 : ¬ v2 = v) (h2m : ¬ v2 = -1) {s : Nat} (hs : s < 1728) (hc : isCellC α 4 (J (s / 12))) (u : Option Value) : ∃ α' q', Run 4 121 [some (.ref (64)), some (.ref (7 + i)), some (.int (J s)), some (.int (v)), some (.int (J (s / 12))), some (.int (J (s % 12 / 2))), some (.int (J (s % 2))), u, none] [] (HC z α π β η o od) = some (.inl none, (HC z α' π β η o od)) ∧ Fc α α' ∧ St α' (uo pt v (tE α s ((s % 12 / 2 + 5) % 6))) q' a e v v2 f := by
  have hh : s % 12 / 2 < 6 := by omega
  have hr : (s % 12 / 2 + 5) % 6 < 6 := Nat.mod_lt _ (by omega)
  have hw : s % 2 = 0 ∨ s % 2 = 1 := by omega
  have ean := ang3 hr H.wdJ.1
  have e57 := t57 (z := z) (β := β) (π := π) (η := η) (o := o) (od := od) H hr
  have et := trn5 _ hh
  obtain ⟨α', q', f1, f2, f3⟩ := s5 (z := z) (β := β) (π := π) (η := η) (o := o) (od := od) S hv G h2 h2m (show s / 12 < 144 by omega) hc hr (w := 0) (by omega)
  rw [show J 0 = (0 : Int32) from rfl] at f1
  unfold tE
  rcases hw with w | w
  · by_cases q1 : angN ((s % 12 / 2 + 5) % 6) (wdN α) = 3
    · rw [if_neg (fun x => x.elim (fun y => by omega) (fun y => y q1))]
      refine ⟨α, q, ?_, Fc_r α, S⟩
      simp only [↓reduceIte, e4_0, e4_1, e4_3, e4_4, e4_6, e4_7, e4_9, e4_10, e4_11, e4_12, e4_14, e4_15, e4_16, e4_17, e4_20, e4_21, e4_24, e4_25, e4_27, e4_28, e4_31, e4_33, e4_36, e4_37, e4_40, e4_41, e4_44, e4_46, e4_48, e4_51, e4_53, e4_55, e4_56, e4_59, e4_62, e4_63, e4_66, e4_68, e4_71, e4_74, e4_75, e4_77, e4_79, e4_80, e4_81, e4_86, e4_87, e4_88, e4_90, e4_91, e4_93, e4_95, e4_98, e4_99, e4_102, e4_104, e4_107, e4_108, e4_111, e4_112, e4_114, e4_116, e4_117, e4_118, e4_121, e4_123, e4_125, e4_126, e4_127, e4_128, e4_130, e4_131, e4_133, e4_135, e4_138, e4_139, e4_142, e4_144, e4_147, e4_148, e4_151, e4_152, e4_154, e4_156, e4_157, e4_158, e4_161, gf0_0 kd64, isO4, et, q6, w, show J 0 = (0 : Int32) from rfl, e57, ean.mpr q1, aft_v, aft_n, Option.bind_some, rf_some, ck_i, ck_r, ck_n, nb0, nb1, nbi, Nat.reduceAdd, if_true, if_false, not_false_eq_true, not_true_eq_false]
    · rw [if_pos (Or.inr q1)]
      refine ⟨α', q', ?_, f2, f3⟩
      simp only [↓reduceIte, e4_0, e4_1, e4_3, e4_4, e4_6, e4_7, e4_9, e4_10, e4_11, e4_12, e4_14, e4_15, e4_16, e4_17, e4_20, e4_21, e4_24, e4_25, e4_27, e4_28, e4_31, e4_33, e4_36, e4_37, e4_40, e4_41, e4_44, e4_46, e4_48, e4_51, e4_53, e4_55, e4_56, e4_59, e4_62, e4_63, e4_66, e4_68, e4_71, e4_74, e4_75, e4_77, e4_79, e4_80, e4_81, e4_86, e4_87, e4_88, e4_90, e4_91, e4_93, e4_95, e4_98, e4_99, e4_102, e4_104, e4_107, e4_108, e4_111, e4_112, e4_114, e4_116, e4_117, e4_118, e4_121, e4_123, e4_125, e4_126, e4_127, e4_128, e4_130, e4_131, e4_133, e4_135, e4_138, e4_139, e4_142, e4_144, e4_147, e4_148, e4_151, e4_152, e4_154, e4_156, e4_157, e4_158, e4_161, gf0_0 kd64, isO4, isO_HC kd64 (show 0 ≤ 9 by decide), et, q6, w, show J 0 = (0 : Int32) from rfl, e57, ean, q1, f1, aft_v, aft_n, Option.bind_some, rf_some, ck_i, ck_r, ck_n, nb0, nb1, nbi, Nat.reduceAdd, if_true, if_false, not_false_eq_true, not_true_eq_false]
  · rw [if_pos (Or.inl w)]
    refine ⟨α', q', ?_, f2, f3⟩
    simp only [↓reduceIte, e4_0, e4_1, e4_3, e4_4, e4_6, e4_7, e4_9, e4_10, e4_11, e4_12, e4_14, e4_15, e4_16, e4_17, e4_20, e4_21, e4_24, e4_25, e4_27, e4_28, e4_31, e4_33, e4_36, e4_37, e4_40, e4_41, e4_44, e4_46, e4_48, e4_51, e4_53, e4_55, e4_56, e4_59, e4_62, e4_63, e4_66, e4_68, e4_71, e4_74, e4_75, e4_77, e4_79, e4_80, e4_81, e4_86, e4_87, e4_88, e4_90, e4_91, e4_93, e4_95, e4_98, e4_99, e4_102, e4_104, e4_107, e4_108, e4_111, e4_112, e4_114, e4_116, e4_117, e4_118, e4_121, e4_123, e4_125, e4_126, e4_127, e4_128, e4_130, e4_131, e4_133, e4_135, e4_138, e4_139, e4_142, e4_144, e4_147, e4_148, e4_151, e4_152, e4_154, e4_156, e4_157, e4_158, e4_161, gf0_0 kd64, isO4, isO_HC kd64 (show 0 ≤ 9 by decide), et, q6, w, show J 1 = (1 : Int32) from rfl, i1_0, f1, aft_v, aft_n, Option.bind_some, rf_some, ck_i, ck_r, ck_n, nb0, nb1, nbi, Nat.reduceAdd, if_true, if_false, not_false_eq_true, not_true_eq_false]
theorem s4 (H : Ok α n) {i : Nat} (hi : i < n) {pt : Nat → Int32} {q a e : Nat} {v v2 : Int32} {f : Nat → Int32} (S : St α pt q a e v v2 f) (hv : 0 ≤ v.toInt) (G : Gd pt v) (h2 : ¬ v2 = v) (h2m : ¬ v2 = -1) {s : Nat} (hs : s < 1728) (hc : isCellC α 4 (J (s / 12))) : ∃ α' q', Run 4 0 [some (.ref (64)), some (.ref (7 + i)), some (.int (J s)), some (.int (v)), none, none, none, none, none] [] (HC z α π β η o od) = some (.inl none, (HC z α' π β η o od)) ∧ Fc α α' ∧ St α' (spr pt v (aE α n i s) (tE α s ((s % 12 / 2 + 1) % 6)) (tE α s ((s % 12 / 2 + 5) % 6))) q' a e v v2 f := by
  have h8 := H.n8
  obtain ⟨α1, q1, u1, a1, a2, a3⟩ := s4_a (z := z) (β := β) (π := π) (η := η) (o := o) (od := od) H hi S hv G h2 h2m hs hc
  have sq1 := Fc_sq a2
  have H1 := Ok_sm (Sm_of h8 sq1) H
  have c1 : isCellC α1 4 (J (s / 12)) := by rw [cell_sq sq1]; exact hc
  have G1 := Gd_uo G (aE α n i s)
  obtain ⟨α2, q2, b1, b2, b3⟩ := s4_b (z := z) (β := β) (π := π) (η := η) (o := o) (od := od) (i := i) H1 a3 hv G1 h2 h2m hs c1 u1
  have sq2 := Fc_sq (Fc_t a2 b2)
  have H2 := Ok_sm (Sm_of h8 sq2) H
  have c2 : isCellC α2 4 (J (s / 12)) := by rw [cell_sq sq2]; exact hc
  have G2 := Gd_uo G1 (tE α1 s ((s % 12 / 2 + 1) % 6))
  obtain ⟨α3, q3, d1, d2, d3⟩ := s4_c (z := z) (β := β) (π := π) (η := η) (o := o) (od := od) (i := i) H2 b3 hv G2 h2 h2m hs c2 (some (.int (J ((s % 12 / 2 + 1) % 6))))
  rw [tE_sq sq1, tE_sq sq2] at d3
  exact ⟨α3, q3, by rw [a1, b1, d1], Fc_t (Fc_t a2 b2) d2, d3⟩
end S67
