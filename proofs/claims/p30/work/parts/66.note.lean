/-! the class' chart: noting a stand -/
theorem kd64 : kd 64 = 0 := by decide
theorem kd65 : kd 65 = 40 := by decide
theorem kd66 : kd 66 = 40 := by decide
theorem kd67 : kd 67 = 40 := by decide
theorem al65 : aln 65 = 144 := by decide
theorem al66 : aln 66 = 144 := by decide
theorem al67 : aln 67 = 1728 := by decide
def Cb (α : Mem) (pt : Nat → Int32) (q : Nat) : Prop := (∀ x, x < 144 → ∀ b, b < 12 → (α 65 x &&& mkB b = 0 ↔ pt (12 * x + b) = -1)) ∧ (∀ x, x < 144 → α 66 x = mxP pt x) ∧ α 64 4 = J q ∧ q = cntN pt 1728 ∧ α 64 5 = cntF (fun x => ¬ mxP pt x = -1) 144 0 0
/-- the queue's places e.. hold the stands of v points -/
def Qv (α : Mem) (e q : Nat) (pt : Nat → Int32) (v : Int32) : Prop := (∀ t, t < 1728 → (pt t = v ↔ ∃ j, e ≤ j ∧ j < q ∧ α 67 j = J t)) ∧ ∀ j, e ≤ j → j < q → ∃ t, t < 1728 ∧ α 67 j = J t
/-- f: what the queue held at the phase's beginning -/
def St (α : Mem) (pt : Nat → Int32) (q a e : Nat) (v v2 : Int32) (f : Nat → Int32) : Prop := Cb α pt q ∧ e ≤ q ∧ a ≤ e ∧ Qv α e q pt v ∧ Qv α a e pt v2 ∧ ∀ j, j < e → α 67 j = f j
/-- only the chart has changed -/
def Fc (α α' : Mem) : Prop := ∀ j, ¬ (64 ≤ j ∧ j < 68) → α' j = α j
theorem Fc_r (α : Mem) : Fc α α := fun _ _ => rfl
theorem Fc_t {a b c : Mem} (h : Fc a b) (h2 : Fc b c) : Fc a c := fun j q => (h2 j q).trans (h j q)
theorem Fc_up (α : Mem) {a : Nat} (h : 64 ≤ a ∧ a < 68) (k : Nat) (v : Int32) : Fc α (up2 α a k v) := fun j q => up2_ne _ (fun w => q (by omega)) _ _
theorem Fc_upA (α : Mem) {a : Nat} (h : 64 ≤ a ∧ a < 68) (f : Nat → Int32) : Fc α (upA α a f) := fun j q => upA_ne _ (fun w => q (by omega)) _
theorem Fc_sq {α α' : Mem} (h : Fc α α') : Sq α α' := fun j q w => h j (by omega)
theorem Gd_upt {pt : Nat → Int32} {v : Int32} (G : Gd pt v) (s : Nat) : Gd (upt pt s v) v := by
  intro t ht
  rw [upt_at]
  split
  · exact Or.inr (Int.le_refl _)
  · exact G t ht
def noteM (α : Mem) (x b q : Nat) (v : Int32) : Mem := if α 66 x = -1 then up2 (up2 (up2 (up2 (up2 α 65 x (α 65 x ||| mkB b)) 67 q (J (12 * x + b))) 64 4 (J (q + 1))) 66 x v) 64 5 (α 64 5 + 1) else up2 (up2 (up2 α 65 x (α 65 x ||| mkB b)) 67 q (J (12 * x + b))) 64 4 (J (q + 1))
theorem Fc_note (α : Mem) (x b q : Nat) (v : Int32) : Fc α (noteM α x b q v) := by
  unfold noteM
  split
  · exact Fc_t (Fc_t (Fc_t (Fc_t (Fc_up α (by decide) _ _) (Fc_up _ (by decide) _ _)) (Fc_up _ (by decide) _ _)) (Fc_up _ (by decide) _ _)) (Fc_up _ (by decide) _ _)
  · exact Fc_t (Fc_t (Fc_up α (by decide) _ _) (Fc_up _ (by decide) _ _)) (Fc_up _ (by decide) _ _)
theorem note_65 (α : Mem) (x b q : Nat) (v : Int32) (y : Nat) : noteM α x b q v 65 y = if y = x then α 65 x ||| mkB b else α 65 y := by
  unfold noteM
  split
  · rw [up2_ne _ (by decide), up2_ne _ (by decide), up2_ne _ (by decide), up2_ne _ (by decide), up2_a]
  · rw [up2_ne _ (by decide), up2_ne _ (by decide), up2_a]
theorem note_66 (α : Mem) (x b q : Nat) (v : Int32) (y : Nat) : noteM α x b q v 66 y = if y = x ∧ α 66 x = -1 then v else α 66 y := by
  unfold noteM
  split
  · next h =>
    rw [up2_ne _ (by decide), up2_a, up2_ne _ (by decide), up2_ne _ (by decide), up2_ne _ (by decide)]
    by_cases w : y = x
    · rw [if_pos w, if_pos ⟨w, h⟩]
    · rw [if_neg w, if_neg (fun z => w z.1)]
  · next h => rw [up2_ne _ (by decide), up2_ne _ (by decide), up2_ne _ (by decide), if_neg (fun z => h z.2)]
theorem note_67 (α : Mem) (x b q : Nat) (v : Int32) (y : Nat) : noteM α x b q v 67 y = if y = q then J (12 * x + b) else α 67 y := by
  unfold noteM
  split
  · rw [up2_ne _ (by decide), up2_ne _ (by decide), up2_ne _ (by decide), up2_a, up2_ne _ (by decide)]
  · rw [up2_ne _ (by decide), up2_a, up2_ne _ (by decide)]
theorem note_4 (α : Mem) (x b q : Nat) (v : Int32) : noteM α x b q v 64 4 = J (q + 1) := by
  unfold noteM
  split
  · rw [up2_rd _ _ _ _ _ (by decide), up2_ne _ (by decide), up2_rr]
  · rw [up2_rr]
theorem note_5 (α : Mem) (x b q : Nat) (v : Int32) : noteM α x b q v 64 5 = if α 66 x = -1 then α 64 5 + 1 else α 64 5 := by
  unfold noteM
  split
  · rw [up2_rr]
  · rw [up2_rd _ _ _ _ _ (by decide), up2_ne _ (by decide), up2_ne _ (by decide)]
section S66
variable {z : Zr} {α β γ : Mem} {π : Nat → Nat} {η : Int64} {o : Nat → Int64} {od : Nat → UInt64} {n k : Nat}
theorem s5_n {x : Nat} (hx : x < 144) (hc : isCellC α 4 (J x)) {h : Nat} (hh : h < 6) {w : Nat} (hw : w < 2) {q : Nat} (hq : q < 1728) (h4 : α 64 4 = J q) (h0 : α 65 x &&& mkB (2 * h + w) = 0) (v : Int32) : Run 5 0 [some (.ref (64)), some (.int (J x)), some (.int (J h)), some (.int (J w)), some (.int (v)), none, none] [] (HC z α π β η o od) = some (.inl none, (HC z (noteM α x (2 * h + w) q v) π β η o od)) := by
  have i65 : inB (J x) (aln 65) = true := by rw [al65]; exact inB_J hx (by omega)
  have i66 : inB (J x) (aln 66) = true := by rw [al66]; exact inB_J hx (by omega)
  have i67 : inB (J q) (aln 67) = true := by rw [al67]; exact inB_J hq (by omega)
  have eb : 2 * J h + J w = J (2 * h + w) := by rw [show (2 : Int32) = J 2 from rfl, J_mul, J_add]
  have e12 : J x * 12 + J (2 * h + w) = J (12 * x + (2 * h + w)) := by rw [show (12 : Int32) = J 12 from rfl, J_mul, J_add, Nat.mul_comm x 12]
  have em : (1 : Int32) <<< (J (2 * h + w) &&& 31) = mkB (2 * h + w) := rfl
  have hw2 : w = 0 ∨ w = 1 := by omega
  have ew : ∀ c : Int32, (c = J 0 → J w = 0 → c = J w) := fun c h1 h2 => by rw [h1, h2]; rfl
  unfold noteM
  rcases hw2 with rfl | rfl
  · have z0 : (J 0 : Int32) = 0 := rfl
    have eb' : 2 * J h + 0 = J (2 * h + 0) := eb
    by_cases q6 : α 66 x = -1 <;> simp only [↓reduceIte, e5_0, e5_1, e5_4, e5_5, e5_8, e5_11, e5_12, e5_15, e5_16, e5_19, e5_20, e5_23, e5_24, e5_25, e5_26, e5_27, e5_28, e5_31, e5_32, e5_35, e5_36, e5_37, e5_39, e5_40, e5_42, e5_43, e5_45, e5_46, e5_49, e5_50, e5_51, e5_53, e5_54, e5_57, e5_58, e5_59, e5_62, e5_63, e5_64, e5_65, e5_67, e5_68, e5_69, e5_70, e5_73, e5_74, e5_77, e5_78, e5_80, e5_81, e5_83, e5_84, e5_85, e5_86, e5_87, e5_90, e5_91, e5_92, e5_95, e5_96, e5_99, e5_100, e5_101, e5_102, e5_105, e5_106, e5_109, e5_110, e5_112, e5_113, e5_114, e5_115, e5_118, e5_119, e5_120, e5_123, gf0_0 kd64, gf0_1 kd64, gf0_2 kd64, gf0_3 kd64, gf0_4 kd64, gf0_5 kd64, isO4, s44 kd4, bi_t hc, i1_0, h4, alen40 kd67, al67, J_lt (show q < 2147483648 by omega) (show 1728 < 2147483648 by omega), hq, z0, eb', em, gaI40 kd65 i65, gaI40 kd66 i66, paI40 kd65 i65, paI40 kd66 i66, paI40 kd67 i67, J_tn (show x < 2147483648 by omega), J_tn (show q < 2147483648 by omega), h0, e12, pf0_4 kd64, pf0_5 kd64, up2_ne _ (show (64 : Nat) ≠ 65 by decide), up2_ne _ (show (64 : Nat) ≠ 66 by decide), up2_ne _ (show (64 : Nat) ≠ 67 by decide), up2_ne _ (show (66 : Nat) ≠ 64 by decide), up2_ne _ (show (66 : Nat) ≠ 65 by decide), up2_ne _ (show (66 : Nat) ≠ 67 by decide), up2_rd _ _ _ _ _ (show (5 : Nat) ≠ 4 by decide), J_succ, q6, aft_v, aft_n, Option.bind_some, rf_some, ck_i, ck_r, ck_n, nb0, nb1, nbi, Nat.reduceAdd, if_true, if_false, not_false_eq_true, not_true_eq_false]
  · have z1 : (J 1 : Int32) = 1 := rfl
    have eb' : 2 * J h + 1 = J (2 * h + 1) := eb
    by_cases q6 : α 66 x = -1 <;> simp only [↓reduceIte, e5_0, e5_1, e5_4, e5_5, e5_8, e5_11, e5_12, e5_15, e5_16, e5_19, e5_20, e5_23, e5_24, e5_25, e5_26, e5_27, e5_28, e5_31, e5_32, e5_35, e5_36, e5_37, e5_39, e5_40, e5_42, e5_43, e5_45, e5_46, e5_49, e5_50, e5_51, e5_53, e5_54, e5_57, e5_58, e5_59, e5_62, e5_63, e5_64, e5_65, e5_67, e5_68, e5_69, e5_70, e5_73, e5_74, e5_77, e5_78, e5_80, e5_81, e5_83, e5_84, e5_85, e5_86, e5_87, e5_90, e5_91, e5_92, e5_95, e5_96, e5_99, e5_100, e5_101, e5_102, e5_105, e5_106, e5_109, e5_110, e5_112, e5_113, e5_114, e5_115, e5_118, e5_119, e5_120, e5_123, gf0_0 kd64, gf0_1 kd64, gf0_2 kd64, gf0_3 kd64, gf0_4 kd64, gf0_5 kd64, isO4, s44 kd4, bi_t hc, i1_0, h4, alen40 kd67, al67, J_lt (show q < 2147483648 by omega) (show 1728 < 2147483648 by omega), hq, z1, eb', em, gaI40 kd65 i65, gaI40 kd66 i66, paI40 kd65 i65, paI40 kd66 i66, paI40 kd67 i67, J_tn (show x < 2147483648 by omega), J_tn (show q < 2147483648 by omega), h0, e12, pf0_4 kd64, pf0_5 kd64, up2_ne _ (show (64 : Nat) ≠ 65 by decide), up2_ne _ (show (64 : Nat) ≠ 66 by decide), up2_ne _ (show (64 : Nat) ≠ 67 by decide), up2_ne _ (show (66 : Nat) ≠ 64 by decide), up2_ne _ (show (66 : Nat) ≠ 65 by decide), up2_ne _ (show (66 : Nat) ≠ 67 by decide), up2_rd _ _ _ _ _ (show (5 : Nat) ≠ 4 by decide), J_succ, q6, aft_v, aft_n, Option.bind_some, rf_some, ck_i, ck_r, ck_n, nb0, nb1, nbi, Nat.reduceAdd, if_true, if_false, not_false_eq_true, not_true_eq_false]
theorem s5_o {x : Nat} (hx : x < 144) (hc : isCellC α 4 (J x)) {h : Nat} {w : Nat} (hw : w < 2) {q : Nat} (hq : q ≤ 1728) (h4 : α 64 4 = J q) (h0 : ¬ α 65 x &&& mkB (2 * h + w) = 0) (v : Int32) : Run 5 0 [some (.ref (64)), some (.int (J x)), some (.int (J h)), some (.int (J w)), some (.int (v)), none, none] [] (HC z α π β η o od) = some (.inl none, (HC z α π β η o od)) := by
  have i65 : inB (J x) (aln 65) = true := by rw [al65]; exact inB_J hx (by omega)
  have eb : 2 * J h + J w = J (2 * h + w) := by rw [show (2 : Int32) = J 2 from rfl, J_mul, J_add]
  have em : (1 : Int32) <<< (J (2 * h + w) &&& 31) = mkB (2 * h + w) := rfl
  by_cases hq2 : q < 1728
  · have hw2 : w = 0 ∨ w = 1 := by omega
    rcases hw2 with rfl | rfl
    · have z0 : (J 0 : Int32) = 0 := rfl
      have eb' : 2 * J h + 0 = J (2 * h + 0) := eb
      simp only [↓reduceIte, e5_0, e5_1, e5_4, e5_5, e5_8, e5_11, e5_12, e5_15, e5_16, e5_19, e5_20, e5_23, e5_24, e5_25, e5_26, e5_27, e5_28, e5_31, e5_32, e5_35, e5_36, e5_37, e5_39, e5_40, e5_42, e5_43, e5_45, e5_46, e5_49, e5_50, e5_51, e5_53, e5_54, e5_57, e5_58, e5_59, e5_62, e5_63, e5_64, e5_65, e5_67, e5_68, e5_69, e5_70, e5_73, e5_74, e5_77, e5_78, e5_80, e5_81, e5_83, e5_84, e5_85, e5_86, e5_87, e5_90, e5_91, e5_92, e5_95, e5_96, e5_99, e5_100, e5_101, e5_102, e5_105, e5_106, e5_109, e5_110, e5_112, e5_113, e5_114, e5_115, e5_118, e5_119, e5_120, e5_123, gf0_0 kd64, gf0_1 kd64, gf0_3 kd64, gf0_4 kd64, isO4, s44 kd4, bi_t hc, i1_0, h4, alen40 kd67, al67, J_lt (show q < 2147483648 by omega) (show 1728 < 2147483648 by omega), hq2, z0, eb', em, gaI40 kd65 i65, J_tn (show x < 2147483648 by omega), h0, aft_v, aft_n, Option.bind_some, rf_some, ck_i, ck_r, ck_n, nb0, nb1, nbi, Nat.reduceAdd, if_true, if_false, not_false_eq_true, not_true_eq_false]
    · have z1 : (J 1 : Int32) = 1 := rfl
      have eb' : 2 * J h + 1 = J (2 * h + 1) := eb
      simp only [↓reduceIte, e5_0, e5_1, e5_4, e5_5, e5_8, e5_11, e5_12, e5_15, e5_16, e5_19, e5_20, e5_23, e5_24, e5_25, e5_26, e5_27, e5_28, e5_31, e5_32, e5_35, e5_36, e5_37, e5_39, e5_40, e5_42, e5_43, e5_45, e5_46, e5_49, e5_50, e5_51, e5_53, e5_54, e5_57, e5_58, e5_59, e5_62, e5_63, e5_64, e5_65, e5_67, e5_68, e5_69, e5_70, e5_73, e5_74, e5_77, e5_78, e5_80, e5_81, e5_83, e5_84, e5_85, e5_86, e5_87, e5_90, e5_91, e5_92, e5_95, e5_96, e5_99, e5_100, e5_101, e5_102, e5_105, e5_106, e5_109, e5_110, e5_112, e5_113, e5_114, e5_115, e5_118, e5_119, e5_120, e5_123, gf0_0 kd64, gf0_1 kd64, gf0_3 kd64, gf0_4 kd64, isO4, s44 kd4, bi_t hc, i1_0, h4, alen40 kd67, al67, J_lt (show q < 2147483648 by omega) (show 1728 < 2147483648 by omega), hq2, z1, eb', em, gaI40 kd65 i65, J_tn (show x < 2147483648 by omega), h0, aft_v, aft_n, Option.bind_some, rf_some, ck_i, ck_r, ck_n, nb0, nb1, nbi, Nat.reduceAdd, if_true, if_false, not_false_eq_true, not_true_eq_false]
  · simp only [↓reduceIte, e5_0, e5_1, e5_4, e5_5, e5_8, e5_11, e5_12, e5_15, e5_16, e5_19, e5_20, e5_23, e5_24, e5_25, e5_26, e5_27, e5_28, e5_31, e5_32, e5_35, e5_36, e5_37, e5_39, e5_40, e5_42, e5_43, e5_45, e5_46, e5_49, e5_50, e5_51, e5_53, e5_54, e5_57, e5_58, e5_59, e5_62, e5_63, e5_64, e5_65, e5_67, e5_68, e5_69, e5_70, e5_73, e5_74, e5_77, e5_78, e5_80, e5_81, e5_83, e5_84, e5_85, e5_86, e5_87, e5_90, e5_91, e5_92, e5_95, e5_96, e5_99, e5_100, e5_101, e5_102, e5_105, e5_106, e5_109, e5_110, e5_112, e5_113, e5_114, e5_115, e5_118, e5_119, e5_120, e5_123, gf0_0 kd64, gf0_3 kd64, gf0_4 kd64, isO4, s44 kd4, bi_t hc, i1_0, h4, alen40 kd67, al67, J_lt (show q < 2147483648 by omega) (show 1728 < 2147483648 by omega), hq2, aft_v, aft_n, Option.bind_some, rf_some, ck_i, ck_r, ck_n, nb0, nb1, nbi, Nat.reduceAdd, if_true, if_false, not_false_eq_true, not_true_eq_false]
theorem s5 {pt : Nat → Int32} {q a e : Nat} {v v2 : Int32} {f : Nat → Int32} (S : St α pt q a e v v2 f) (hv : 0 ≤ v.toInt) (G : Gd pt v) (h2 : ¬ v2 = v) (h2m : ¬ v2 = -1) {x : Nat} (hx : x < 144) (hc : isCellC α 4 (J x)) {h : Nat} (hh : h < 6) {w : Nat} (hw : w < 2) : ∃ α' q', Run 5 0 [some (.ref (64)), some (.int (J x)), some (.int (J h)), some (.int (J w)), some (.int (v)), none, none] [] (HC z α π β η o od) = some (.inl none, (HC z α' π β η o od)) ∧ Fc α α' ∧ St α' (upt pt (12 * x + (2 * h + w)) v) q' a e v v2 f := by
  obtain ⟨⟨c1, c2, c3, c4, c5⟩, s2, s3, ⟨s4, s5⟩, ⟨s6, s7⟩, s8⟩ := id S
  have hb : 2 * h + w < 12 := by omega
  have ht : 12 * x + (2 * h + w) < 1728 := by omega
  have hvm : ¬ v = -1 := fun z => by rw [z, tim1] at hv; omega
  by_cases h0 : α 65 x &&& mkB (2 * h + w) = 0
  · have hp := (c1 x hx _ hb).mp h0
    have hq : q < 1728 := by rw [c4]; exact cntN_lt hp 1728 ht
    have eu : upt pt (12 * x + (2 * h + w)) v = upd pt (12 * x + (2 * h + w)) v := by unfold upt; rw [if_pos hp]
    refine ⟨_, q + 1, s5_n hx hc hh hw hq c3 h0 v, Fc_note _ _ _ _ _, ⟨fun y hy b hb2 => ?_, fun y hy => ?_, note_4 .., ?_, ?_⟩, by omega, s3, ⟨fun t ht2 => ?_, fun j j1 j2 => ?_⟩, ⟨fun t ht2 => ?_, fun j j1 j2 => ?_⟩, fun j hj => by rw [note_67, if_neg (by omega)]; exact s8 j hj⟩
    · rw [note_65, eu]
      by_cases w1 : y = x
      · subst w1
        rw [if_pos rfl, bit_or _ hb hb2, c1 y hy b hb2]
        by_cases w2 : b = 2 * h + w
        · rw [← w2, upd_at]
          exact ⟨fun z => absurd rfl z.1, fun z => absurd z hvm⟩
        · rw [upd_ne _ (by omega)]
          exact ⟨fun z => z.2, fun z => ⟨fun u => w2 u.symm, z⟩⟩
      · rw [if_neg w1, c1 y hy b hb2, upd_ne _ (by omega)]
    · rw [note_66, mx_upt hv G hx hb hy, c2 x hx, c2 y hy]
    · rw [eu, cntN_up hvm hp 1728 ht, ← c4]
    · rw [note_5, c2 x hx]
      by_cases w1 : mxP pt x = -1
      · rw [if_pos w1, c5]
        refine (cnt_flip _ _ (x := x) (fun z => z w1) ?_ 144 0 0 (fun y y1 _ y3 => ?_) (by omega) (by omega)).symm
        · rw [mx_upt hv G hx hb hx, if_pos ⟨rfl, w1⟩]; exact hvm
        · rw [mx_upt hv G hx hb (by omega), if_neg (fun z => y1 z.1)]
      · rw [if_neg w1, c5]
        refine (cnt_cg _ _ 144 0 0 (fun y _ y3 => ?_)).symm
        rw [mx_upt hv G hx hb (by omega), if_neg (fun z => w1 z.2)]
    · rw [eu]
      by_cases w1 : t = 12 * x + (2 * h + w)
      · subst w1
        rw [upd_at]
        exact ⟨fun _ => ⟨q, by omega, by omega, by rw [note_67, if_pos rfl]⟩, fun _ => rfl⟩
      · rw [upd_ne _ w1, s4 t ht2]
        constructor
        · rintro ⟨j, j1, j2, j3⟩
          exact ⟨j, j1, by omega, by rw [note_67, if_neg (by omega)]; exact j3⟩
        · rintro ⟨j, j1, j2, j3⟩
          rw [note_67] at j3
          by_cases w2 : j = q
          · rw [if_pos w2, J_eq (by omega) (by omega)] at j3
            exact absurd j3.symm w1
          · rw [if_neg w2] at j3
            exact ⟨j, j1, by omega, j3⟩
    · rw [note_67]
      by_cases w2 : j = q
      · rw [if_pos w2]; exact ⟨_, ht, rfl⟩
      · rw [if_neg w2]; exact s5 j j1 (by omega)
    · rw [eu]
      have e67 : ∀ j, j < e → noteM α x (2 * h + w) q v 67 j = α 67 j := fun j hj => by rw [note_67, if_neg (by omega)]
      have ex : (∃ j, a ≤ j ∧ j < e ∧ noteM α x (2 * h + w) q v 67 j = J t) ↔ ∃ j, a ≤ j ∧ j < e ∧ α 67 j = J t := by
        constructor
        · rintro ⟨j, j1, j2, j3⟩; exact ⟨j, j1, j2, by rw [← e67 j j2]; exact j3⟩
        · rintro ⟨j, j1, j2, j3⟩; exact ⟨j, j1, j2, by rw [e67 j j2]; exact j3⟩
      rw [ex]
      by_cases w1 : t = 12 * x + (2 * h + w)
      · subst w1
        rw [upd_at, ← s6 _ ht2, hp]
        exact ⟨fun z => absurd z.symm h2, fun z => absurd z.symm h2m⟩
      · rw [upd_ne _ w1]; exact s6 t ht2
    · rw [note_67, if_neg (by omega)]; exact s7 j j1 j2
  · have hp : ¬ pt (12 * x + (2 * h + w)) = -1 := fun z => h0 ((c1 x hx _ hb).mpr z)
    have eu : upt pt (12 * x + (2 * h + w)) v = pt := by unfold upt; rw [if_neg hp]
    rw [eu]
    exact ⟨α, q, s5_o hx hc hw (by rw [c4]; exact cntN_le _ _) c3 h0 v, Fc_r α, S⟩
end S66
