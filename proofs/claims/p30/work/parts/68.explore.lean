/-! the class' chart: exploring -/
def Pr (α : Mem) (n i : Nat) (S : Nat → Prop) (pt pj : Nat → Int32) (v : Int32) : Prop := ∀ t, ((pt t = -1 ∧ ∃ s, S s ∧ Ed α n i s t) → pj t = v) ∧ (¬ (pt t = -1 ∧ ∃ s, S s ∧ Ed α n i s t) → pj t = pt t)
theorem Pr_fun {α : Mem} {n i : Nat} {S : Nat → Prop} {pt a b : Nat → Int32} {v : Int32} (h : Pr α n i S pt a v) (h2 : Pr α n i S pt b v) : a = b := by
  funext t
  by_cases q : pt t = -1 ∧ ∃ s, S s ∧ Ed α n i s t
  · rw [(h t).1 q, (h2 t).1 q]
  · rw [(h t).2 q, (h2 t).2 q]
theorem Pr_cg {α : Mem} {n i : Nat} {S S' : Nat → Prop} {pt a : Nat → Int32} {v : Int32} (hS : ∀ s, S' s ↔ S s) (h : Pr α n i S pt a v) : Pr α n i S' pt a v := by
  have e : S' = S := by funext s; exact propext (hS s)
  rw [e]; exact h
theorem Pr_0 {α : Mem} {n i : Nat} {S : Nat → Prop} {pt : Nat → Int32} {v : Int32} (hS : ∀ s, ¬ S s) : Pr α n i S pt pt v := by
  intro t
  exact ⟨fun ⟨_, s, h, _⟩ => absurd h (hS s), fun _ => rfl⟩
theorem Pr_st {α : Mem} {n i : Nat} {S : Nat → Prop} {pt pj : Nat → Int32} {v : Int32} (hv : ¬ v = -1) (h : Pr α n i S pt pj v) (s1 : Nat) : Pr α n i (fun s => S s ∨ s = s1) pt (spr pj v (aE α n i s1) (tE α s1 ((s1 % 12 / 2 + 1) % 6)) (tE α s1 ((s1 % 12 / 2 + 5) % 6))) v := by
  intro t
  rw [spr_at hv]
  constructor
  · rintro ⟨h1, s, hs, he⟩
    by_cases q : pj t = -1
    · rcases hs with hs | hs
      · have := (h t).1 ⟨h1, s, hs, he⟩
        rw [this] at q; exact absurd q hv
      · subst hs; rw [if_pos ⟨q, he⟩]
    · rw [if_neg (fun w => q w.1)]
      by_cases w : ∃ s, S s ∧ Ed α n i s t
      · exact (h t).1 ⟨h1, w⟩
      · have := (h t).2 (fun z => w z.2)
        rw [this] at q; exact absurd h1 q
  · intro h1
    have e : pj t = pt t := (h t).2 (fun ⟨a, s, hs, he⟩ => h1 ⟨a, s, Or.inl hs, he⟩)
    rw [e, if_neg]
    rintro ⟨a, b⟩
    exact h1 ⟨a, s1, Or.inr rfl, b⟩
def Phs (α : Mem) (n i : Nat) : Nat → (Nat → Int32) → (Nat → Int32) → Prop
  | 0, a, b => b = a
  | p + 1, a, b => ∃ c, Pr α n i (fun s => s < 1728 ∧ a s = J (p + 1)) a c (J p) ∧ Phs α n i p c b
theorem Phs_fun {α : Mem} {n i : Nat} : ∀ p a b c, Phs α n i p a b → Phs α n i p a c → b = c := by
  intro p
  induction p with
  | zero => intro a b c h1 h2; rw [Phs] at h1 h2; rw [h1, h2]
  | succ p ih =>
    intro a b c h1 h2
    rw [Phs] at h1 h2
    obtain ⟨x, x1, x2⟩ := h1
    obtain ⟨y, y1, y2⟩ := h2
    rw [Pr_fun x1 y1] at x2
    exact ih _ _ _ x2 y2
def Vd (α : Mem) (pt : Nat → Int32) : Prop := ∀ s, s < 1728 → ¬ pt s = -1 → isCellC α 4 (J (s / 12))
theorem Vd_pr {α : Mem} {n i : Nat} (H : Ok α n) (hi : i < n) {S : Nat → Prop} {pt pj : Nat → Int32} {v : Int32} (h : Pr α n i S pt pj v) (V : Vd α pt) (hS : ∀ s, S s → s < 1728 ∧ ¬ pt s = -1) : Vd α pj := by
  intro t ht hp
  by_cases q : pt t = -1 ∧ ∃ s, S s ∧ Ed α n i s t
  · obtain ⟨_, s, hs, he⟩ := q
    exact (Ed_v H hi (hS s hs).1 (V s (hS s hs).1 (hS s hs).2) he).2
  · rw [(h t).2 q] at hp
    exact V t ht hp
theorem Gd_pr {α : Mem} {n i : Nat} {S : Nat → Prop} {pt pj : Nat → Int32} {p : Nat} (hp : p < 1000) (h : Pr α n i S pt pj (J p)) (G : Gd pt (J (p + 1))) : Gd pj (J p) := by
  intro t ht
  by_cases q : pt t = -1 ∧ ∃ s, S s ∧ Ed α n i s t
  · rw [(h t).1 q]; exact Or.inr (Int.le_refl _)
  · rw [(h t).2 q]
    rcases G t ht with w | w
    · exact Or.inl w
    · right; rw [J_ti (by omega)] at w ⊢; omega
theorem Gd_le {pt : Nat → Int32} {p : Nat} (hp : p < 1000) (G : Gd pt (J (p + 1))) : Gd pt (J p) := by
  intro t ht
  rcases G t ht with w | w
  · exact Or.inl w
  · right; rw [J_ti (by omega)] at w ⊢; omega
theorem J_pred (p : Nat) : J (p + 1) - 1 = J p := by rw [← J_succ, Int32.add_sub_cancel]
theorem J_pred' (p : Nat) : J (p + 1) + -1 = J p := by
  rw [← J_succ, Int32.add_assoc, show (1 : Int32) + -1 = 0 by decide, Int32.add_zero]
section S68
variable {z : Zr} {α β γ : Mem} {π : Nat → Nat} {η : Int64} {o : Nat → Int64} {od : Nat → UInt64} {n k : Nat}
theorem s3_i {α0 : Mem} (H0 : Ok α0 n) {i : Nat} (hi : i < n) {p : Nat} (hp : p < 1000) {a e : Nat} {pt f : Nat → Int32} (he8 : e ≤ 1728) (G0 : Gd pt (J (p + 1))) (V0 : Vd α0 pt) (hq : ∀ s, s < 1728 → (pt s = J (p + 1) ↔ ∃ j, a ≤ j ∧ j < e ∧ f j = J s)) (hq2 : ∀ j, a ≤ j → j < e → ∃ s, s < 1728 ∧ f j = J s) : ∀ k j (α : Mem) pj qj, j + k = e → a ≤ j → Fc α0 α → St α pj qj a e (J p) (J (p + 1)) f → Pr α0 n i (fun s => s < 1728 ∧ ∃ m, a ≤ m ∧ m < j ∧ f m = J s) pt pj (J p) → ∃ α' pe qe, Run 3 79 [some (.ref (64)), some (.ref (7 + i)), some (.int (J j)), some (.int (J (p + 1))), some (.int (J e))] [] (HC z α π β η o od) = Run 3 114 [some (.ref (64)), some (.ref (7 + i)), some (.int (J e)), some (.int (J (p + 1))), some (.int (J e))] [] (HC z α' π β η o od) ∧ Fc α0 α' ∧ St α' pe qe a e (J p) (J (p + 1)) f ∧ Pr α0 n i (fun s => s < 1728 ∧ ∃ m, a ≤ m ∧ m < e ∧ f m = J s) pt pe (J p) := by
  have h8 := H0.n8
  intro k
  induction k with
  | zero =>
    intro j α pj qj hj ha hF S P
    have : j = e := by omega
    subst this
    refine ⟨α, pj, qj, ?_, hF, S, P⟩
    simp only [↓reduceIte, e3_0, e3_1, e3_4, e3_5, e3_8, e3_9, e3_12, e3_13, e3_16, e3_17, e3_18, e3_21, e3_22, e3_23, e3_26, e3_27, e3_30, e3_33, e3_34, e3_35, e3_36, e3_39, e3_40, e3_43, e3_44, e3_47, e3_48, e3_51, e3_54, e3_55, e3_58, e3_61, e3_62, e3_63, e3_64, e3_65, e3_68, e3_69, e3_70, e3_73, e3_74, e3_77, e3_79, e3_80, e3_82, e3_85, e3_86, e3_87, e3_90, e3_91, e3_94, e3_95, e3_96, e3_97, e3_100, e3_101, e3_102, e3_103, e3_104, e3_105, e3_108, e3_111, e3_117, e3_120, Int32.le_refl, aft_v, aft_n, Option.bind_some, rf_some, ck_i, ck_r, ck_n, nb0, nb1, nbi, Nat.reduceAdd, if_true, if_false, not_false_eq_true, not_true_eq_false]
  | succ k ih =>
    intro j α pj qj hj ha hF S P
    have hje : j < e := by omega
    obtain ⟨s, hs, es⟩ := hq2 j ha hje
    have hps : pt s = J (p + 1) := (hq s hs).mpr ⟨j, ha, hje, es⟩
    have hm : ¬ J (p + 1) = -1 := Jm1 (by omega)
    have hmp : ¬ J p = -1 := Jm1 (by omega)
    have hcs := V0 s hs (by rw [hps]; exact hm)
    have hsq := Fc_sq hF
    have H := Ok_sm (Sm_of h8 hsq) H0
    have hc : isCellC α 4 (J (s / 12)) := by rw [cell_sq hsq]; exact hcs
    have G : Gd pj (J p) := Gd_pr hp P G0
    have hne : ¬ J (p + 1) = J p := by rw [J_eq (by omega) (by omega)]; omega
    obtain ⟨α1, q1, f1, f2, f3⟩ := s4 (z := z) (β := β) (π := π) (η := η) (o := o) (od := od) H hi S (by rw [J_ti (by omega)]; omega) G hne hm hs hc
    rw [aE_sq hsq h8 (by omega), tE_sq hsq, tE_sq hsq] at f3
    have P1 := Pr_st hmp P s
    have P2 : Pr α0 n i (fun s => s < 1728 ∧ ∃ m, a ≤ m ∧ m < j + 1 ∧ f m = J s) pt (spr pj (J p) (aE α0 n i s) (tE α0 s ((s % 12 / 2 + 1) % 6)) (tE α0 s ((s % 12 / 2 + 5) % 6))) (J p) := by
      refine Pr_cg (fun x => ?_) P1
      constructor
      · rintro ⟨x1, m, m1, m2, m3⟩
        by_cases w : m = j
        · subst w
          rw [es, J_eq (by omega) (by omega)] at m3
          exact Or.inr m3.symm
        · exact Or.inl ⟨x1, m, m1, by omega, m3⟩
      · rintro (⟨x1, m, m1, m2, m3⟩ | rfl)
        · exact ⟨x1, m, m1, by omega, m3⟩
        · exact ⟨hs, j, ha, by omega, es⟩
    obtain ⟨α', pe, qe, g1, g2, g3, g4⟩ := ih (j + 1) α1 _ q1 (by omega) (by omega) (Fc_t hF f2) f3 P2
    refine ⟨α', pe, qe, ?_, g2, g3, g4⟩
    have e67 : α 67 j = J s := by rw [S.2.2.2.2.2 j hje]; exact es
    have i67 : inB (J j) (aln 67) = true := by rw [al67]; exact inB_J (by omega) (by omega)
    rw [← g1, e3_79]
    simp only [↓reduceIte, e3_0, e3_1, e3_4, e3_5, e3_8, e3_9, e3_12, e3_13, e3_16, e3_17, e3_18, e3_21, e3_22, e3_23, e3_26, e3_27, e3_30, e3_33, e3_34, e3_35, e3_36, e3_39, e3_40, e3_43, e3_44, e3_47, e3_48, e3_51, e3_54, e3_55, e3_58, e3_61, e3_62, e3_63, e3_64, e3_65, e3_68, e3_69, e3_70, e3_73, e3_74, e3_77, e3_80, e3_82, e3_85, e3_86, e3_87, e3_90, e3_91, e3_94, e3_95, e3_96, e3_97, e3_100, e3_101, e3_102, e3_103, e3_104, e3_105, e3_108, e3_111, e3_117, e3_120, gf0_3 kd64, isO_HC kd64 (show 0 ≤ 9 by decide), alen40 kd67, al67, J_le (show e < 2147483648 by omega) (show j < 2147483648 by omega), J_le (show 1728 < 2147483648 by omega) (show j < 2147483648 by omega), show ¬ e ≤ j by omega, show ¬ 1728 ≤ j by omega, gaI40 kd67 i67, J_tn (show j < 2147483648 by omega), e67, J_pred, f1, J_succ, aft_v, aft_n, Option.bind_some, rf_some, ck_i, ck_r, ck_n, nb0, nb1, nbi, Nat.reduceAdd, if_true, if_false, not_false_eq_true, not_true_eq_false]
theorem s3_o {α0 : Mem} (H0 : Ok α0 n) {i : Nat} (hi : i < n) : ∀ p, p < 1000 → ∀ (α : Mem) pt q a (u : Option Value), Fc α0 α → Cb α pt q → Qv α a q pt (J p) → a ≤ q → Gd pt (J p) → Vd α0 pt → ∃ α' pF qF, Run 3 69 [some (.ref (64)), some (.ref (7 + i)), some (.int (J a)), some (.int (J p)), u] [] (HC z α π β η o od) = some (.inl none, (HC z α' π β η o od)) ∧ Fc α0 α' ∧ Cb α' pF qF ∧ Phs α0 n i p pt pF := by
  have h8 := H0.n8
  intro p
  induction p with
  | zero =>
    intro _ α pt q a u hF C Q ha G V
    refine ⟨α, pt, q, ?_, hF, C, rfl⟩
    have z0 : ((J 0 : Int32) ≤ 0) = True := eq_true (by decide)
    simp only [↓reduceIte, e3_0, e3_1, e3_4, e3_5, e3_8, e3_9, e3_12, e3_13, e3_16, e3_17, e3_18, e3_21, e3_22, e3_23, e3_26, e3_27, e3_30, e3_33, e3_34, e3_35, e3_36, e3_39, e3_40, e3_43, e3_44, e3_47, e3_48, e3_51, e3_54, e3_55, e3_58, e3_61, e3_62, e3_63, e3_64, e3_65, e3_68, e3_69, e3_70, e3_73, e3_74, e3_77, e3_79, e3_80, e3_82, e3_85, e3_86, e3_87, e3_90, e3_91, e3_94, e3_95, e3_96, e3_97, e3_100, e3_101, e3_102, e3_103, e3_104, e3_105, e3_108, e3_111, e3_114, e3_117, e3_120, z0, aft_v, aft_n, Option.bind_some, rf_some, ck_i, ck_r, ck_n, nb0, nb1, nbi, Nat.reduceAdd, if_true, if_false, not_false_eq_true, not_true_eq_false]
  | succ p ih =>
    intro hp α pt q a u hF C Q ha G V
    have hm : ¬ J (p + 1) = -1 := Jm1 (by omega)
    have hq8 : q ≤ 1728 := by rw [C.2.2.2.1]; exact cntN_le _ _
    have S0 : St α pt q a q (J p) (J (p + 1)) (α 67) := by
      refine ⟨C, Nat.le_refl _, ha, ⟨fun t ht => ?_, fun j j1 j2 => by omega⟩, Q, fun j _ => rfl⟩
      constructor
      · intro h
        rcases G t ht with w | w
        · rw [w] at h; exact absurd h.symm (Jm1 (by omega))
        · rw [h, J_ti (by omega), J_ti (by omega)] at w; omega
      · rintro ⟨j, j1, j2, _⟩; omega
    have P0 : Pr α0 n i (fun s => s < 1728 ∧ ∃ m, a ≤ m ∧ m < a ∧ α 67 m = J s) pt pt (J p) := Pr_0 (fun s h => by obtain ⟨_, m, m1, m2, _⟩ := h; omega)
    obtain ⟨α1, pe, qe, f1, f2, f3, f4⟩ := s3_i (z := z) (β := β) (π := π) (η := η) (o := o) (od := od) H0 hi (show p < 1000 by omega) hq8 G V Q.1 Q.2 (q - a) a α pt q (by omega) (Nat.le_refl a) hF S0 P0
    have f4' : Pr α0 n i (fun s => s < 1728 ∧ pt s = J (p + 1)) pt pe (J p) := by
      refine Pr_cg (fun s => ?_) f4
      constructor
      · rintro ⟨x1, x2⟩; exact ⟨x1, (Q.1 s x1).mp x2⟩
      · rintro ⟨x1, x2⟩; exact ⟨x1, (Q.1 s x1).mpr x2⟩
    obtain ⟨C1, s2, s3, s4, s5, s6⟩ := f3
    have V1 : Vd α0 pe := Vd_pr H0 hi f4' V (fun s hs => ⟨hs.1, by rw [hs.2]; exact hm⟩)
    obtain ⟨α2, pF, qF, g1, g2, g3, g4⟩ := ih (by omega) α1 pe qe q (some (.int (J q))) f2 C1 s4 s2 (Gd_pr (by omega) f4' G) V1
    refine ⟨α2, pF, qF, ?_, g2, g3, ⟨pe, f4', g4⟩⟩
    have np : ((J (p + 1) : Int32) ≤ 0) = False := eq_false (by rw [J0, J_le (by omega) (by omega)]; omega)
    have st : Run 3 69 [some (.ref (64)), some (.ref (7 + i)), some (.int (J a)), some (.int (J (p + 1))), u] [] (HC z α π β η o od) = Run 3 79 [some (.ref (64)), some (.ref (7 + i)), some (.int (J a)), some (.int (J (p + 1))), some (.int (J q))] [] (HC z α π β η o od) := by
      simp only [↓reduceIte, e3_0, e3_1, e3_4, e3_5, e3_8, e3_9, e3_12, e3_13, e3_16, e3_17, e3_18, e3_21, e3_22, e3_23, e3_26, e3_27, e3_30, e3_33, e3_34, e3_35, e3_36, e3_39, e3_40, e3_43, e3_44, e3_47, e3_48, e3_51, e3_54, e3_55, e3_58, e3_61, e3_62, e3_63, e3_64, e3_65, e3_68, e3_69, e3_70, e3_73, e3_74, e3_77, e3_80, e3_82, e3_85, e3_86, e3_87, e3_90, e3_91, e3_94, e3_95, e3_96, e3_97, e3_100, e3_101, e3_102, e3_103, e3_104, e3_105, e3_108, e3_111, e3_114, e3_117, e3_120, np, gf0_4 kd64, C.2.2.1, aft_v, aft_n, Option.bind_some, rf_some, ck_i, ck_r, ck_n, nb0, nb1, nbi, Nat.reduceAdd, if_true, if_false, not_false_eq_true, not_true_eq_false]
    rw [st, f1, ← g1]
    simp only [↓reduceIte, e3_0, e3_1, e3_4, e3_5, e3_8, e3_9, e3_12, e3_13, e3_16, e3_17, e3_18, e3_21, e3_22, e3_23, e3_26, e3_27, e3_30, e3_33, e3_34, e3_35, e3_36, e3_39, e3_40, e3_43, e3_44, e3_47, e3_48, e3_51, e3_54, e3_55, e3_58, e3_61, e3_62, e3_63, e3_64, e3_65, e3_68, e3_70, e3_73, e3_74, e3_77, e3_79, e3_80, e3_82, e3_85, e3_86, e3_87, e3_90, e3_91, e3_94, e3_95, e3_96, e3_97, e3_100, e3_101, e3_102, e3_103, e3_104, e3_105, e3_108, e3_111, e3_114, e3_117, e3_120, J_pred', aft_v, aft_n, Option.bind_some, rf_some, ck_i, ck_r, ck_n, nb0, nb1, nbi, Nat.reduceAdd, if_true, if_false, not_false_eq_true, not_true_eq_false]
def pts0 (α : Mem) (i : Nat) : Nat → Int32 := upt (fun _ => -1) (12 * (α (7 + i) 1).toNatClampNeg + (2 * hdA α (7 + i) + (α (7 + i) 14).toNatClampNeg)) (α (7 + i) 9)
def phN (α : Mem) (i : Nat) : Nat := if 0 < α (7 + i) 4 ∧ α (7 + i) 12 = -1 then (α (7 + i) 9).toNatClampNeg else 0
def clrM (α : Mem) : Mem := up2 (up2 (fillC (fillC α 65 0) 66 (-1)) 64 4 0) 64 5 0
theorem Fc_clr (α : Mem) : Fc α (clrM α) := by
  unfold clrM fillC
  exact Fc_t (Fc_t (Fc_t (Fc_upA α (by decide) _) (Fc_upA _ (by decide) _)) (Fc_up _ (by decide) _ _)) (Fc_up _ (by decide) _ _)
theorem Cb_clr (α : Mem) : Cb (clrM α) (fun _ => -1) 0 := by
  have mxm : ∀ x, mxP (fun _ => (-1 : Int32)) x = -1 := fun x => mx_eq (by decide) (fun b _ => by decide) (Or.inl rfl)
  have c0 : ∀ k, cntN (fun _ => (-1 : Int32)) k = 0 := by
    intro k
    induction k with
    | zero => rfl
    | succ k ih => rw [cntN, ih, if_pos rfl]
  have f65 : ∀ x, x < 144 → clrM α 65 x = 0 := fun x hx => by
    unfold clrM
    rw [up2_ne _ (by decide), up2_ne _ (by decide)]
    unfold fillC
    rw [upA_ne _ (by decide), upA_at]
    unfold fillF
    rw [al65, if_pos hx]
  have f66 : ∀ x, x < 144 → clrM α 66 x = -1 := fun x hx => by
    unfold clrM
    rw [up2_ne _ (by decide), up2_ne _ (by decide)]
    unfold fillC
    rw [upA_at]
    unfold fillF
    rw [al66, if_pos hx]
  refine ⟨fun x hx b hb => ?_, fun x hx => ?_, ?_, (c0 1728).symm, ?_⟩
  · rw [f65 x hx, Int32.zero_and]
    exact ⟨fun _ => rfl, fun _ => rfl⟩
  · rw [f66 x hx, mxm]
  · unfold clrM; rw [up2_rd _ _ _ _ _ (by decide), up2_rr]; rfl
  · unfold clrM; rw [up2_rr]
    exact (cnt_none _ 144 0 0 (fun c _ => by rw [mxm]; exact fun w => w rfl)).symm
theorem Ok.wyJ {α : Mem} {n : Nat} (H : Ok α n) {i : Nat} (hi : i < n) : α (7 + i) 14 = J (α (7 + i) 14).toNatClampNeg ∧ (α (7 + i) 14).toNatClampNeg < 2 := by
  rcases H.way i hi with w | w
  · rw [w]; exact ⟨rfl, by decide⟩
  · rw [w]; exact ⟨rfl, by decide⟩
theorem Ok.ptJ {α : Mem} {n : Nat} (H : Ok α n) {i : Nat} (hi : i < n) : α (7 + i) 9 = J (α (7 + i) 9).toNatClampNeg ∧ (α (7 + i) 9).toNatClampNeg ≤ 9 := by
  have h := H.pts i hi
  refine ⟨(J_of h.1).symm, ?_⟩
  unfold Int32.toNatClampNeg; omega
theorem Ok.clJ {α : Mem} {n : Nat} (H : Ok α n) {i : Nat} (hi : i < n) : α (7 + i) 1 = J (α (7 + i) 1).toNatClampNeg ∧ (α (7 + i) 1).toNatClampNeg < 144 := by
  obtain ⟨x, hx, e⟩ := cell_J H (H.isC hi)
  rw [e, J_tn (by omega)]
  exact ⟨rfl, hx⟩
theorem s3_n (H : Ok α n) {i : Nat} (hi : i < n) (ha : ¬ 0 < α (7 + i) 3) : Run 3 0 [some (.ref (64)), some (.ref (7 + i)), none, none, none] [] (HC z α π β η o od) = some (.inl none, (HC z (clrM α) π β η o od)) := by
  have h8 := H.n8
  have kc := kd_ship (show i < 8 by omega)
  have e3 : clrM α (7 + i) = α (7 + i) := Fc_clr α _ (by omega)
  have h7 := s73 (z := z) (α := clrM α) (β := β) (π := π) (η := η) (o := o) (od := od) kc
  rw [e3, bi_f ha] at h7
  unfold clrM at h7 ⊢
  simp only [↓reduceIte, e3_0, e3_1, e3_4, e3_5, e3_8, e3_9, e3_12, e3_13, e3_16, e3_17, e3_18, e3_21, e3_22, e3_23, e3_26, e3_27, e3_30, e3_33, e3_34, e3_35, e3_36, e3_39, e3_40, e3_43, e3_44, e3_47, e3_48, e3_51, e3_54, e3_55, e3_58, e3_61, e3_62, e3_63, e3_64, e3_65, e3_68, e3_70, e3_73, e3_74, e3_77, e3_79, e3_80, e3_82, e3_85, e3_86, e3_87, e3_90, e3_91, e3_94, e3_95, e3_96, e3_97, e3_100, e3_101, e3_102, e3_103, e3_104, e3_105, e3_108, e3_111, e3_114, e3_117, e3_120, gf0_1 kd64, gf0_2 kd64, s118 kd65 (show aln 65 < 2000 by decide), s118 kd66 (show aln 66 < 2000 by decide), pf0_4 kd64, pf0_5 kd64, isS (show i < 8 by omega), h7, aft_v, aft_n, Option.bind_some, rf_some, ck_i, ck_r, ck_n, nb0, nb1, nbi, Nat.reduceAdd, if_true, if_false, not_false_eq_true, not_true_eq_false]
theorem s3_y (H : Ok α n) {i : Nat} (hi : i < n) (ha : 0 < α (7 + i) 3) : ∃ α' pF qF, Run 3 0 [some (.ref (64)), some (.ref (7 + i)), none, none, none] [] (HC z α π β η o od) = some (.inl none, (HC z α' π β η o od)) ∧ Fc α α' ∧ Cb α' pF qF ∧ Phs α n i (phN α i) (pts0 α i) pF := by
  have h8 := H.n8
  have kc := kd_ship (show i < 8 by omega)
  have e3 : clrM α (7 + i) = α (7 + i) := Fc_clr α _ (by omega)
  have h7 := s73 (z := z) (α := clrM α) (β := β) (π := π) (η := η) (o := o) (od := od) kc
  rw [e3, bi_t ha] at h7
  obtain ⟨c1, c2⟩ := H.clJ hi
  obtain ⟨w1, w2⟩ := H.wyJ hi
  obtain ⟨p1, p2⟩ := H.ptJ hi
  have hd := H.hdJ hi
  have sq0 := Fc_sq (Fc_clr α)
  have hcx : isCellC α 4 (J (α (7 + i) 1).toNatClampNeg) := by rw [← c1]; exact H.isC hi
  have hc0 : isCellC (clrM α) 4 (J (α (7 + i) 1).toNatClampNeg) := by rw [cell_sq sq0]; exact hcx
  have v0 : 0 ≤ (α (7 + i) 9).toInt := (H.pts i hi).1
  have n100 : ¬ J 100 = α (7 + i) 9 := fun w => by have := (H.pts i hi).2; rw [← w] at this; exact absurd this (by decide)
  have hvm : ¬ α (7 + i) 9 = -1 := fun w => by rw [w, tim1] at v0; omega
  have S0 : St (clrM α) (fun _ => -1) 0 0 0 (α (7 + i) 9) (J 100) (clrM α 67) := by
    refine ⟨Cb_clr α, Nat.le_refl _, Nat.le_refl _, ⟨fun t _ => ?_, fun j j1 j2 => by omega⟩, ⟨fun t _ => ?_, fun j j1 j2 => by omega⟩, fun j _ => rfl⟩
    · exact ⟨fun w => absurd w.symm hvm, fun ⟨j, j1, j2, _⟩ => by omega⟩
    · exact ⟨fun w => absurd (show (-1 : Int32) = J 100 from w) (by decide), fun ⟨j, j1, j2, _⟩ => by omega⟩
  obtain ⟨α1, q1, f1, f2, f3⟩ := s5 (z := z) (β := β) (π := π) (η := η) (o := o) (od := od) S0 v0 (fun t _ => Or.inl rfl) n100 (by decide) c2 hc0 hd.1 w2
  have F1 := Fc_t (Fc_clr α) f2
  have e1 : α1 (7 + i) = α (7 + i) := F1 _ (by omega)
  have h5 := s75 (z := z) (α := α1) (β := β) (π := π) (η := η) (o := o) (od := od) kc
  have ec : canSailC α1 (7 + i) ↔ canSailC α (7 + i) := by unfold canSailC; rw [e1]
  obtain ⟨C1, -, -, Q1, -, -⟩ := f3
  have epts : upt (fun _ => (-1 : Int32)) (12 * (α (7 + i) 1).toNatClampNeg + (2 * hdA α (7 + i) + (α (7 + i) 14).toNatClampNeg)) (α (7 + i) 9) = pts0 α i := rfl
  rw [epts] at C1 Q1
  have st : Run 3 0 [some (.ref (64)), some (.ref (7 + i)), none, none, none] [] (HC z α π β η o od) = if canSailC α (7 + i) then Run 3 69 [some (.ref (64)), some (.ref (7 + i)), some (.int (0)), some (.int (α (7 + i) 9)), none] [] (HC z α1 π β η o od) else some (.inl none, (HC z α1 π β η o od)) := by
    have f1' : Run 5 0 [some (.ref (64)), some (.int (α (7 + i) 1)), some (.int (α (7 + i) 2)), some (.int (α (7 + i) 14)), some (.int (α (7 + i) 9)), none, none] [] (HC z (clrM α) π β η o od) = some (.inl none, (HC z α1 π β η o od)) := by
      rw [c1, hd.2, w1] ; exact f1
    by_cases q : canSailC α (7 + i)
    · rw [if_pos q]
      rw [bi_t (ec.mpr q)] at h5
      unfold clrM at h7 f1' e3
      simp only [↓reduceIte, e3_0, e3_1, e3_4, e3_5, e3_8, e3_9, e3_12, e3_13, e3_16, e3_17, e3_18, e3_21, e3_22, e3_23, e3_26, e3_27, e3_30, e3_33, e3_34, e3_35, e3_36, e3_39, e3_40, e3_43, e3_44, e3_47, e3_48, e3_51, e3_54, e3_55, e3_58, e3_61, e3_62, e3_63, e3_64, e3_65, e3_68, e3_70, e3_73, e3_74, e3_77, e3_79, e3_80, e3_82, e3_85, e3_86, e3_87, e3_90, e3_91, e3_94, e3_95, e3_96, e3_97, e3_100, e3_101, e3_102, e3_103, e3_104, e3_105, e3_108, e3_111, e3_114, e3_117, e3_120, gf0_1 kd64, gf0_2 kd64, s118 kd65 (show aln 65 < 2000 by decide), s118 kd66 (show aln 66 < 2000 by decide), pf0_4 kd64, pf0_5 kd64, isS (show i < 8 by omega), isO_HC kd64 (show 0 ≤ 9 by decide), h7, gf7_1 kc, gf7_2 kc, gf7_14 kc, gf7_9 kc, e3, f1', h5, e1, i1_0, aft_v, aft_n, Option.bind_some, rf_some, ck_i, ck_r, ck_n, nb0, nb1, nbi, Nat.reduceAdd, if_true, if_false, not_false_eq_true, not_true_eq_false]
    · rw [if_neg q]
      rw [bi_f (fun w => q (ec.mp w))] at h5
      unfold clrM at h7 f1' e3
      simp only [↓reduceIte, e3_0, e3_1, e3_4, e3_5, e3_8, e3_9, e3_12, e3_13, e3_16, e3_17, e3_18, e3_21, e3_22, e3_23, e3_26, e3_27, e3_30, e3_33, e3_34, e3_35, e3_36, e3_39, e3_40, e3_43, e3_44, e3_47, e3_48, e3_51, e3_54, e3_55, e3_58, e3_61, e3_62, e3_63, e3_64, e3_65, e3_68, e3_70, e3_73, e3_74, e3_77, e3_79, e3_80, e3_82, e3_85, e3_86, e3_87, e3_90, e3_91, e3_94, e3_95, e3_96, e3_97, e3_100, e3_101, e3_102, e3_103, e3_104, e3_105, e3_108, e3_111, e3_114, e3_117, e3_120, gf0_1 kd64, gf0_2 kd64, s118 kd65 (show aln 65 < 2000 by decide), s118 kd66 (show aln 66 < 2000 by decide), pf0_4 kd64, pf0_5 kd64, isS (show i < 8 by omega), isO_HC kd64 (show 0 ≤ 9 by decide), h7, gf7_1 kc, gf7_2 kc, gf7_14 kc, gf7_9 kc, e3, f1', h5, i1_0, aft_v, aft_n, Option.bind_some, rf_some, ck_i, ck_r, ck_n, nb0, nb1, nbi, Nat.reduceAdd, if_true, if_false, not_false_eq_true, not_true_eq_false]
  rw [st]
  by_cases q : canSailC α (7 + i)
  · rw [if_pos q]
    have en : phN α i = (α (7 + i) 9).toNatClampNeg := by unfold phN; rw [if_pos ⟨q.2.1, q.2.2.1⟩]
    rw [en]
    have G1 : Gd (pts0 α i) (J (α (7 + i) 9).toNatClampNeg) := by
      rw [← p1]; exact Gd_upt (fun t _ => Or.inl rfl) _
    have V1 : Vd α (pts0 α i) := by
      intro t ht hp
      unfold pts0 at hp
      rw [upt_at] at hp
      split at hp
      · next w =>
        rw [← w.2, show (12 * (α (7 + i) 1).toNatClampNeg + (2 * hdA α (7 + i) + (α (7 + i) 14).toNatClampNeg)) / 12 = (α (7 + i) 1).toNatClampNeg by have := hd.1; omega]
        exact hcx
      · exact absurd rfl hp
    rw [p1] at Q1
    obtain ⟨α2, pF, qF, g1, g2, g3, g4⟩ := s3_o (z := z) (β := β) (π := π) (η := η) (o := o) (od := od) H hi (α (7 + i) 9).toNatClampNeg (by omega) α1 (pts0 α i) q1 0 none F1 C1 Q1 (by omega) G1 V1
    rw [← p1] at g1
    exact ⟨α2, pF, qF, g1, g2, g3, g4⟩
  · rw [if_neg q]
    have en : phN α i = 0 := by
      unfold phN
      split
      · next w =>
        have : ¬ 0 < α (7 + i) 9 := fun x => q ⟨ha, w.1, w.2, x⟩
        rw [i32_lt, ti0] at this
        unfold Int32.toNatClampNeg; omega
      · rfl
    rw [en]
    exact ⟨α1, pts0 α i, q1, rfl, F1, C1, rfl⟩
/-- what reach answers -/
def RV (α : Mem) (n i : Nat) (r : Int32) : Prop := (¬ 0 < α (7 + i) 3 ∧ r = 0) ∨ (0 < α (7 + i) 3 ∧ ∃ pF, Phs α n i (phN α i) (pts0 α i) pF ∧ r = cntF (fun x => ¬ mxP pF x = -1) 144 0 0)
def PV (α : Mem) (n i x : Nat) (r : Int32) : Prop := (¬ 0 < α (7 + i) 3 ∧ r = -1) ∨ (0 < α (7 + i) 3 ∧ ∃ pF, Phs α n i (phN α i) (pts0 α i) pF ∧ r = mxP pF x)
theorem RV_fun {α : Mem} {n i : Nat} {a b : Int32} (h : RV α n i a) (h2 : RV α n i b) : a = b := by
  rcases h with ⟨x1, x2⟩ | ⟨x1, p, x2, x3⟩ <;> rcases h2 with ⟨y1, y2⟩ | ⟨y1, q, y2, y3⟩
  · rw [x2, y2]
  · exact absurd y1 x1
  · exact absurd x1 y1
  · rw [x3, y3, Phs_fun _ _ _ _ x2 y2]
theorem PV_fun {α : Mem} {n i x : Nat} {a b : Int32} (h : PV α n i x a) (h2 : PV α n i x b) : a = b := by
  rcases h with ⟨x1, x2⟩ | ⟨x1, p, x2, x3⟩ <;> rcases h2 with ⟨y1, y2⟩ | ⟨y1, q, y2, y3⟩
  · rw [x2, y2]
  · exact absurd y1 x1
  · exact absurd x1 y1
  · rw [x3, y3, Phs_fun _ _ _ _ x2 y2]
theorem s1 (H : Ok α n) {i : Nat} (hi : i < n) : ∃ α' r, Run 1 0 [some (.ref (64)), some (.ref (7 + i))] [] (HC z α π β η o od) = some (.inl (some (.int (r))), (HC z α' π β η o od)) ∧ Fc α α' ∧ RV α n i r := by
  have h8 := H.n8
  by_cases ha : 0 < α (7 + i) 3
  · obtain ⟨α', pF, qF, f1, f2, f3, f4⟩ := s3_y (z := z) (β := β) (π := π) (η := η) (o := o) (od := od) H hi ha
    refine ⟨α', _, ?_, f2, Or.inr ⟨ha, pF, f4, f3.2.2.2.2⟩⟩
    simp only [↓reduceIte, e1_0, e1_1, e1_2, e1_5, e1_6, e1_9, isO_HC kd64 (show 0 ≤ 9 by decide), f1, gf0_5 kd64, aft_v, aft_n, Option.bind_some, rf_some, ck_i, ck_r, ck_n, nb0, nb1, nbi, Nat.reduceAdd, if_true, if_false, not_false_eq_true, not_true_eq_false]
  · have f1 := s3_n (z := z) (β := β) (π := π) (η := η) (o := o) (od := od) H hi ha
    refine ⟨clrM α, 0, ?_, Fc_clr α, Or.inl ⟨ha, rfl⟩⟩
    have e5 : clrM α 64 5 = 0 := by unfold clrM; rw [up2_rr]
    simp only [↓reduceIte, e1_0, e1_1, e1_2, e1_5, e1_6, e1_9, isO_HC kd64 (show 0 ≤ 9 by decide), f1, gf0_5 kd64, e5, aft_v, aft_n, Option.bind_some, rf_some, ck_i, ck_r, ck_n, nb0, nb1, nbi, Nat.reduceAdd, if_true, if_false, not_false_eq_true, not_true_eq_false]
theorem s2 (H : Ok α n) {i : Nat} (hi : i < n) {x : Nat} (hx : x < 144) (hc : isCellC α 4 (J x)) : ∃ α' r, Run 2 0 [some (.ref (64)), some (.ref (7 + i)), some (.int (J x))] [] (HC z α π β η o od) = some (.inl (some (.int (r))), (HC z α' π β η o od)) ∧ Fc α α' ∧ PV α n i x r := by
  have h8 := H.n8
  have i66 : inB (J x) (aln 66) = true := by rw [al66]; exact inB_J hx (by omega)
  by_cases ha : 0 < α (7 + i) 3
  · obtain ⟨α', pF, qF, f1, f2, f3, f4⟩ := s3_y (z := z) (β := β) (π := π) (η := η) (o := o) (od := od) H hi ha
    have hc' : isCellC α' 4 (J x) := by rw [cell_sq (Fc_sq f2)]; exact hc
    refine ⟨α', _, ?_, f2, Or.inr ⟨ha, pF, f4, f3.2.1 x hx⟩⟩
    simp only [↓reduceIte, e2_0, e2_1, e2_2, e2_5, e2_6, e2_9, e2_10, e2_13, e2_16, e2_17, e2_20, e2_21, e2_22, e2_25, e2_26, isO_HC kd64 (show 0 ≤ 9 by decide), isO4, f1, gf0_0 kd64, gf0_2 kd64, s44 kd4, bi_t hc', i1_0, gaI40 kd66 i66, J_tn (show x < 2147483648 by omega), aft_v, aft_n, Option.bind_some, rf_some, ck_i, ck_r, ck_n, nb0, nb1, nbi, Nat.reduceAdd, if_true, if_false, not_false_eq_true, not_true_eq_false]
  · have f1 := s3_n (z := z) (β := β) (π := π) (η := η) (o := o) (od := od) H hi ha
    have hc' : isCellC (clrM α) 4 (J x) := by rw [cell_sq (Fc_sq (Fc_clr α))]; exact hc
    have e66 : clrM α 66 x = -1 := by
      unfold clrM
      rw [up2_ne _ (by decide), up2_ne _ (by decide)]
      unfold fillC
      rw [upA_at]
      unfold fillF
      rw [al66, if_pos hx]
    refine ⟨clrM α, -1, ?_, Fc_clr α, Or.inl ⟨ha, rfl⟩⟩
    simp only [↓reduceIte, e2_0, e2_1, e2_2, e2_5, e2_6, e2_9, e2_10, e2_13, e2_16, e2_17, e2_20, e2_21, e2_22, e2_25, e2_26, isO_HC kd64 (show 0 ≤ 9 by decide), isO4, f1, gf0_0 kd64, gf0_2 kd64, s44 kd4, bi_t hc', i1_0, gaI40 kd66 i66, J_tn (show x < 2147483648 by omega), e66, aft_v, aft_n, Option.bind_some, rf_some, ck_i, ck_r, ck_n, nb0, nb1, nbi, Nat.reduceAdd, if_true, if_false, not_false_eq_true, not_true_eq_false]
end S68
