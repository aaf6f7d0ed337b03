/-! the model: boarding; a ship that is given; rocks; what is asked for -/
theorem mx1 (x : Int32) : mxC 1 x = if x ≤ 1 then 1 else x := by
  rw [i32_eq, mx_ti, ti1]
  split
  · next h => rw [if_neg (by rw [i32_le, ti1]; omega)]
  · next h => rw [if_pos (by rw [i32_le, ti1]; omega)]; rfl
theorem J126 : (126 : Int32) = J 126 := rfl
def fndF (p : Nat → Prop) [DecidablePred p] : Nat → Nat → Int32 → Int32
  | 0, _, w => w
  | k + 1, c, w => fndF p k (c + 1) (if p c then J c else w)
theorem fnd_last (p : Nat → Prop) [DecidablePred p] : ∀ k c, fndF p k c (lastF p c) = lastF p (c + k) := by
  intro k
  induction k with
  | zero => intro c; rfl
  | succ k ih =>
    intro c
    have e : (if p c then J c else lastF p c) = lastF p (c + 1) := rfl
    rw [fndF, e, ih, show c + 1 + k = c + (k + 1) by omega]
theorem last_none (p : Nat → Prop) [DecidablePred p] {N : Nat} (h : ∀ c, N ≤ c → ¬ p c) : ∀ k, lastF p (N + k) = lastF p N := by
  intro k
  induction k with
  | zero => rfl
  | succ k ih => rw [show N + (k + 1) = N + k + 1 by omega, lastF, if_neg (h _ (by omega)), ih]
theorem cnt_app (p : Nat → Prop) [DecidablePred p] : ∀ a b i v, cntF p (a + b) i v = cntF p b (i + a) (cntF p a i v) := by
  intro a
  induction a with
  | zero => intro b i v; rw [Nat.zero_add]; rfl
  | succ a ih => intro b i v; rw [show a + 1 + b = a + b + 1 by omega, cntF, ih, cntF, show i + 1 + a = i + (a + 1) by omega]
theorem cnt_none (p : Nat → Prop) [DecidablePred p] : ∀ k i v, (∀ c, i ≤ c → ¬ p c) → cntF p k i v = v := by
  intro k
  induction k with
  | zero => intro i v _; rfl
  | succ k ih => intro i v h; rw [cntF, if_neg (h i (Nat.le_refl i)), ih _ _ (fun c hc => h c (by omega))]
def szN (α : Mem) : Nat := (α 4 0 * α 4 1).toNatClampNeg
theorem Ok.sz {α : Mem} {n : Nat} (H : Ok α n) : α 4 0 * α 4 1 = J (szN α) ∧ szN α ≤ 144 := by
  have hw := H.wh
  have e := J_of (c := α 4 0 * α 4 1) (by omega)
  refine ⟨e.symm, ?_⟩
  unfold szN Int32.toNatClampNeg
  omega
theorem rock_lt {α : Mem} {n : Nat} (H : Ok α n) {c : Nat} (hc : c < szN α) : isCellC α 4 (J c) := by
  have hs := H.sz
  refine ⟨?_, ?_, ?_⟩
  · rw [J0, J_le (by omega) (by omega)]; omega
  · rw [hs.1, J_lt (by omega) (by omega)]; exact hc
  · rw [show (144 : Int32) = J 144 from rfl, J_lt (by omega) (by omega)]; omega
theorem cell_lt {α : Mem} {n : Nat} (H : Ok α n) {c : Int32} : isCellC α 4 c ↔ ∃ k, k < szN α ∧ c = J k := by
  have hs := H.sz
  constructor
  · intro h
    obtain ⟨k, hk, rfl⟩ := cell_J H h
    have h2 := h.2.1
    rw [hs.1, J_lt (by omega) (by omega)] at h2
    exact ⟨k, h2, rfl⟩
  · rintro ⟨k, hk, rfl⟩
    exact rock_lt H hk
section S51
variable {z : Zr} {α β γ : Mem} {π : Nat → Nat} {η : Int64} {o : Nat → Int64} {od : Nat → UInt64} {n k : Nat}
theorem s181 (H : Ok α n) (R : Rm (β 71) α n) {i j : Nat} (hi : i < n) (hj : j < n) (hij : j ≠ i) (hp : α (7 + i) 12 = J j) : ∃ β', Run 181 0 [some (.ref (70)), some (.int (J i)), none, none, none, none, none] [] (HC z γ π β η o od) = some (.inl (some (.int (if 0 < α (7 + j) 7 - (α (7 + i) 7 + 2) / 3 then 0 else 1))), (HC z γ π β' η o od)) ∧ Rm (β' 71) (stormC α i j) n ∧ Md β β' := by
  have h8 := H.n8
  have hi8 : i < 8 := by omega
  have hj8 : j < 8 := by omega
  have n1 : 7 + i ≠ 7 + j := by omega
  have n2 : 7 + j ≠ 7 + i := by omega
  have hci := H.crew i hi
  have hcj := H.crew j hj
  have t3 : (3 : Int32).toInt = 3 := rfl
  have t4 : (4 : Int32).toInt = 4 := rfl
  have t2 : (2 : Int32).toInt = 2 := rfl
  have a3 := add_ti (x := α (7 + j) 7) (y := 3) (by omega) (by omega)
  have d4 := tidv (f := α (7 + j) 7 + 3) (by omega) 4 (by decide)
  have s4 := sub_ti (x := α (7 + i) 7) (y := (α (7 + j) 7 + 3) / 4) (by omega) (by omega)
  have a2 := add_ti (x := α (7 + i) 7) (y := 2) (by omega) (by omega)
  have d3 := tidv (f := α (7 + i) 7 + 2) (by omega) 3 (by decide)
  have cb : 1 ≤ (mxC 1 (α (7 + i) 7 - (α (7 + j) 7 + 3) / 4)).toInt ∧ (mxC 1 (α (7 + i) 7 - (α (7 + j) 7 + 3) / 4)).toInt ≤ 60 := by
    rw [mx_ti, ti1, s4]; split <;> omega
  generalize hc : mxC 1 (α (7 + i) 7 - (α (7 + j) 7 + 3) / 4) = c at cb
  generalize hb : α (7 + j) 7 - (α (7 + i) 7 + 2) / 3 = b'
  have hA : up2 (up2 (up2 α (7 + i) 13 1) (7 + i) 7 c) (7 + j) 7 b' = stormA α i j := by
    unfold stormA
    rw [hc, hb, up2_cm (up2 α (7 + i) 13 1) (Or.inl n1), up2_cm α (Or.inl n1) 1 b', up2_cm (up2 α (7 + j) 7 b') (Or.inr (show (13 : Nat) ≠ 7 by decide))]
  have R1 := Rm_up R hi8 (k := 14) (by decide) 1
  have R2 := Rm_up R1 hi8 (k := 7) (by decide) c
  have R3 := Rm_up R2 hj8 (k := 7) (by decide) b'
  have e14 : slM 14 = 13 := rfl
  have e7 : slM 7 = 7 := rfl
  rw [e14, e7, hA] at R3
  have g7 : stormA α i j (7 + j) 7 = b' := by rw [← hA, up2_rr]
  have g7i : stormA α i j (7 + i) 7 = c := by rw [← hA, up2_ne _ n1, up2_rr]
  have g0i : stormA α i j (7 + i) 0 = α (7 + i) 0 := by rw [← hA, up2_ne _ n1, u7_0, u13_0]
  have g12i : stormA α i j (7 + i) 12 = J j := by rw [← hA, up2_ne _ n1, u7_12, u13_12, hp]
  have m3 : ¬ (3 : Int32) = 0 := by decide
  have v7 := s125_7 (z := z) (γ := γ) (π := π) (η := η) (o := o) (od := od) (β := up2 (up2 (up2 β 71 (6 + 15 * i + 14) 1) 71 (6 + 15 * i + 7) c) 71 (6 + 15 * j + 7) b') R3 h8 hj
  rw [g7] at v7
  have ec : (if α (7 + i) 7 - (α (7 + j) 7 + 3) / 4 ≤ 1 then 1 else α (7 + i) 7 - (α (7 + j) 7 + 3) / 4) = c := by rw [← hc, mx1]
  have run1 : Run 181 0 [some (.ref (70)), some (.int (J i)), none, none, none, none, none] [] (HC z γ π β η o od) = Run 181 83 [some (.ref (70)), some (.int (J i)), some (.int (J j)), some (.int (α (7 + i) 7)), some (.int (α (7 + j) 7)), some (.int (c)), none] [] (HC z γ π (up2 (up2 (up2 β 71 (6 + 15 * i + 14) 1) 71 (6 + 15 * i + 7) c) 71 (6 + 15 * j + 7) b') η o od) := by
    by_cases q : α (7 + i) 7 - (α (7 + j) 7 + 3) / 4 ≤ 1
    · rw [if_pos q] at ec
      subst ec
      simp only [↓reduceIte, e181_0, e181_1, e181_2, e181_4, e181_7, e181_8, e181_9, e181_10, e181_12, e181_15, e181_16, e181_17, e181_18, e181_20, e181_23, e181_25, e181_26, e181_28, e181_29, e181_30, e181_31, e181_32, e181_33, e181_34, e181_37, e181_38, e181_40, e181_41, e181_42, e181_43, e181_44, e181_45, e181_48, e181_49, e181_51, e181_52, e181_53, e181_55, e181_56, e181_59, e181_60, e181_61, e181_63, e181_65, e181_68, e181_69, e181_70, e181_72, e181_74, e181_75, e181_76, e181_77, e181_78, e181_79, e181_80, e181_84, e181_85, e181_87, e181_90, e181_93, e181_94, e181_95, e181_97, e181_98, e181_99, e181_100, e181_101, e181_103, e181_104, e181_105, e181_108, e181_110, e181_111, e181_112, e181_114, e181_116, e181_118, e181_119, e181_122, e181_123, e181_124, e181_126, e181_128, e181_131, e181_132, e181_135, e181_137, e181_140, e181_141, e181_142, e181_143, e181_144, e181_145, e181_146, e181_149, e181_152, e181_153, e181_154, e181_157, e181_158, isO70, s125_11 R h8 hi, s125_7 R h8 hi, s125_7 R h8 hj, hp, q, q4', m3, s126_14 hi8, s126_7 hi8, s126_7 hj8, hb, aft_v, aft_n, Option.bind_some, rf_some, ck_i, ck_r, ck_n, nb0, nb1, nbi, Nat.reduceAdd, if_true, if_false, not_false_eq_true, not_true_eq_false]
    · rw [if_neg q] at ec
      subst ec
      simp only [↓reduceIte, e181_0, e181_1, e181_2, e181_4, e181_7, e181_8, e181_9, e181_10, e181_12, e181_15, e181_16, e181_17, e181_18, e181_20, e181_23, e181_25, e181_26, e181_28, e181_29, e181_30, e181_31, e181_32, e181_33, e181_34, e181_37, e181_38, e181_40, e181_41, e181_42, e181_43, e181_44, e181_45, e181_48, e181_49, e181_51, e181_52, e181_53, e181_55, e181_56, e181_59, e181_60, e181_61, e181_63, e181_65, e181_68, e181_69, e181_70, e181_72, e181_74, e181_75, e181_76, e181_77, e181_78, e181_79, e181_80, e181_84, e181_85, e181_87, e181_90, e181_93, e181_94, e181_95, e181_97, e181_98, e181_99, e181_100, e181_101, e181_103, e181_104, e181_105, e181_108, e181_110, e181_111, e181_112, e181_114, e181_116, e181_118, e181_119, e181_122, e181_123, e181_124, e181_126, e181_128, e181_131, e181_132, e181_135, e181_137, e181_140, e181_141, e181_142, e181_143, e181_144, e181_145, e181_146, e181_149, e181_152, e181_153, e181_154, e181_157, e181_158, isO70, s125_11 R h8 hi, s125_7 R h8 hi, s125_7 R h8 hj, hp, q, q4', m3, s126_14 hi8, s126_7 hi8, s126_7 hj8, hb, aft_v, aft_n, Option.bind_some, rf_some, ck_i, ck_r, ck_n, nb0, nb1, nbi, Nat.reduceAdd, if_true, if_false, not_false_eq_true, not_true_eq_false]
  rw [run1]
  by_cases q : 0 < b'
  · refine ⟨_, ?_, ?_, Md_up (Md_up (Md_up (Md_r β) (6 + 15 * i + 14) 1) (6 + 15 * i + 7) c) (6 + 15 * j + 7) b'⟩
    · simp only [↓reduceIte, e181_0, e181_1, e181_2, e181_4, e181_7, e181_8, e181_9, e181_10, e181_12, e181_15, e181_16, e181_17, e181_18, e181_20, e181_23, e181_25, e181_26, e181_28, e181_29, e181_30, e181_31, e181_32, e181_33, e181_34, e181_37, e181_38, e181_40, e181_41, e181_42, e181_43, e181_44, e181_45, e181_48, e181_49, e181_51, e181_52, e181_53, e181_55, e181_56, e181_59, e181_60, e181_61, e181_63, e181_65, e181_68, e181_69, e181_70, e181_72, e181_74, e181_75, e181_76, e181_77, e181_78, e181_79, e181_80, e181_83, e181_84, e181_85, e181_87, e181_90, e181_93, e181_94, e181_95, e181_97, e181_98, e181_99, e181_100, e181_101, e181_103, e181_104, e181_105, e181_108, e181_110, e181_111, e181_112, e181_114, e181_116, e181_118, e181_119, e181_122, e181_123, e181_124, e181_126, e181_128, e181_131, e181_132, e181_135, e181_137, e181_140, e181_141, e181_142, e181_143, e181_144, e181_145, e181_146, e181_149, e181_152, e181_153, e181_154, e181_157, e181_158, isO70, v7, q, le_not, aft_v, aft_n, Option.bind_some, rf_some, ck_i, ck_r, ck_n, nb0, nb1, nbi, Nat.reduceAdd, if_true, if_false, not_false_eq_true, not_true_eq_false]
    · unfold stormC; rw [hb, if_pos q]; exact R3
  · generalize hgo : mnC ((c + 3) / 4) (c - 1) = go
    have b3 := add_ti (x := c) (y := 3) (by omega) (by omega)
    have b4 := tidv (f := c + 3) (by omega) 4 (by decide)
    have b1 := sub_ti (x := c) (y := 1) (by rw [ti1]; omega) (by rw [ti1]; omega)
    rw [ti1] at b1
    have gb : 0 ≤ go.toInt ∧ go.toInt ≤ 59 := by rw [← hgo, mn_ti]; split <;> omega
    have eg : mxC 1 go = if go = 0 then 1 else go := by
      rw [i32_eq, mx_ti, ti1]
      by_cases w : go = 0
      · rw [if_pos w, w, ti0, if_neg (by decide)]; rfl
      · rw [if_neg w]
        rw [i32_eq, ti0] at w
        split <;> omega
    have R4 := Rm_up R3 hi8 (k := 7) (by decide) (c - go)
    have R5 := Rm_up R4 hj8 (k := 7) (by decide) (mxC 1 go)
    have R6 := Rm_up R5 hj8 (k := 0) (by decide) (α (7 + i) 0)
    have e0 : slM 0 = 0 := rfl
    rw [e7, e0] at R6
    rw [e7] at R5
    have hS : seizeC (stormA α i j) i j = looseC (up2 (up2 (up2 (stormA α i j) (7 + i) 7 (c - go)) (7 + j) 7 (mxC 1 go)) (7 + j) 0 (α (7 + i) 0)) (7 + i) := by
      unfold seizeC
      rw [g7i, g0i]
      show looseC (up2 (up2 (up2 (stormA α i j) (7 + i) 7 (c - mnC ((c + 3) / 4) (c - 1))) (7 + j) 7 (mxC 1 (mnC ((c + 3) / 4) (c - 1)))) (7 + j) 0 (α (7 + i) 0)) (7 + i) = _
      rw [hgo]
    have v0 := s125_0 (z := z) (γ := γ) (π := π) (η := η) (o := o) (od := od) (β := up2 (up2 (up2 (up2 (up2 β 71 (6 + 15 * i + 14) 1) 71 (6 + 15 * i + 7) c) 71 (6 + 15 * j + 7) b') 71 (6 + 15 * i + 7) (c - go)) 71 (6 + 15 * j + 7) (mxC 1 go)) R5 h8 hi
    rw [up2_ne _ n1, u7_0, g0i] at v0
    have v11 := s125_11 (z := z) (γ := γ) (π := π) (η := η) (o := o) (od := od) (β := up2 (up2 (up2 (up2 (up2 (up2 β 71 (6 + 15 * i + 14) 1) 71 (6 + 15 * i + 7) c) 71 (6 + 15 * j + 7) b') 71 (6 + 15 * i + 7) (c - go)) 71 (6 + 15 * j + 7) (mxC 1 go)) 71 (6 + 15 * j + 0) (α (7 + i) 0)) R6 h8 hi
    rw [up2_ne _ n1, up2_ne _ n1, u7_12, g12i] at v11
    have R7 := Rm_up R6 hj8 (k := 11) (by decide) (-1)
    have R8 := Rm_up R7 hi8 (k := 11) (by decide) (-1)
    have e11 : slM 11 = 12 := rfl
    rw [e11] at R8
    have lo : Run 174 0 [some (.ref (70)), some (.int (J i))] [] (HC z γ π (up2 (up2 (up2 (up2 (up2 (up2 β 71 (6 + 15 * i + 14) 1) 71 (6 + 15 * i + 7) c) 71 (6 + 15 * j + 7) b') 71 (6 + 15 * i + 7) (c - go)) 71 (6 + 15 * j + 7) (mxC 1 go)) 71 (6 + 15 * j + 0) (α (7 + i) 0)) η o od) = some (.inl none, (HC z γ π (up2 (up2 (up2 (up2 (up2 (up2 (up2 (up2 β 71 (6 + 15 * i + 14) 1) 71 (6 + 15 * i + 7) c) 71 (6 + 15 * j + 7) b') 71 (6 + 15 * i + 7) (c - go)) 71 (6 + 15 * j + 7) (mxC 1 go)) 71 (6 + 15 * j + 0) (α (7 + i) 0)) 71 (6 + 15 * j + 11) (-1)) 71 (6 + 15 * i + 11) (-1)) η o od)) := by
      simp only [↓reduceIte, e174_0, e174_1, e174_2, e174_4, e174_7, e174_8, e174_11, e174_12, e174_13, e174_14, e174_16, e174_19, e174_21, e174_22, e174_25, e174_26, e174_27, e174_29, e174_30, e174_33, isO70, v11, Jm1 (show j < 2147483648 by omega), s126_11 hj8, s126_11 hi8, aft_v, aft_n, Option.bind_some, rf_some, ck_i, ck_r, ck_n, nb0, nb1, nbi, Nat.reduceAdd, if_true, if_false, not_false_eq_true, not_true_eq_false]
    refine ⟨_, ?_, ?_, Md_up (Md_up (Md_up (Md_up (Md_up (Md_up (Md_up (Md_up (Md_r β) (6 + 15 * i + 14) 1) (6 + 15 * i + 7) c) (6 + 15 * j + 7) b') (6 + 15 * i + 7) (c - go)) (6 + 15 * j + 7) (mxC 1 go)) (6 + 15 * j + 0) (α (7 + i) 0)) (6 + 15 * j + 11) (-1)) (6 + 15 * i + 11) (-1)⟩
    · by_cases w : go = 0
      · rw [if_pos w] at eg
        rw [eg] at v0 lo ⊢
        simp only [↓reduceIte, e181_0, e181_1, e181_2, e181_4, e181_7, e181_8, e181_9, e181_10, e181_12, e181_15, e181_16, e181_17, e181_18, e181_20, e181_23, e181_25, e181_26, e181_28, e181_29, e181_30, e181_31, e181_32, e181_33, e181_34, e181_37, e181_38, e181_40, e181_41, e181_42, e181_43, e181_44, e181_45, e181_48, e181_49, e181_51, e181_52, e181_53, e181_55, e181_56, e181_59, e181_60, e181_61, e181_63, e181_65, e181_68, e181_69, e181_70, e181_72, e181_74, e181_75, e181_76, e181_77, e181_78, e181_79, e181_80, e181_83, e181_84, e181_85, e181_87, e181_90, e181_93, e181_94, e181_95, e181_97, e181_98, e181_99, e181_100, e181_101, e181_103, e181_104, e181_105, e181_108, e181_110, e181_111, e181_112, e181_114, e181_116, e181_118, e181_119, e181_122, e181_123, e181_124, e181_126, e181_128, e181_131, e181_132, e181_135, e181_137, e181_140, e181_141, e181_142, e181_143, e181_144, e181_145, e181_146, e181_149, e181_152, e181_153, e181_154, e181_157, e181_158, isO70, v7, q, le_not, q4', s120, hgo, w, s126_7 hi8, s126_7 hj8, s126_0 hj8, aft_v, aft_n, Option.bind_some, rf_some, ck_i, ck_r, ck_n, nb0, nb1, nbi, Nat.reduceAdd, if_true, if_false, not_false_eq_true, not_true_eq_false]
        rw [w] at v0 lo
        simp only [↓reduceIte, e181_0, e181_1, e181_2, e181_4, e181_7, e181_8, e181_9, e181_10, e181_12, e181_15, e181_16, e181_17, e181_18, e181_20, e181_23, e181_25, e181_26, e181_28, e181_29, e181_30, e181_31, e181_32, e181_33, e181_34, e181_37, e181_38, e181_40, e181_41, e181_42, e181_43, e181_44, e181_45, e181_48, e181_49, e181_51, e181_52, e181_53, e181_55, e181_56, e181_59, e181_60, e181_61, e181_63, e181_65, e181_68, e181_69, e181_70, e181_72, e181_74, e181_75, e181_76, e181_77, e181_78, e181_79, e181_80, e181_83, e181_84, e181_85, e181_87, e181_90, e181_93, e181_94, e181_95, e181_97, e181_98, e181_99, e181_100, e181_101, e181_103, e181_104, e181_105, e181_108, e181_110, e181_111, e181_112, e181_114, e181_116, e181_118, e181_119, e181_122, e181_123, e181_124, e181_126, e181_128, e181_131, e181_132, e181_135, e181_137, e181_140, e181_141, e181_142, e181_143, e181_144, e181_145, e181_146, e181_149, e181_152, e181_153, e181_154, e181_157, e181_158, isO70, v0, lo, s126_0 hj8, aft_v, aft_n, Option.bind_some, rf_some, ck_i, ck_r, ck_n, nb0, nb1, nbi, Nat.reduceAdd, if_true, if_false, not_false_eq_true, not_true_eq_false]
      · rw [if_neg w] at eg
        rw [eg] at v0 lo ⊢
        simp only [↓reduceIte, e181_0, e181_1, e181_2, e181_4, e181_7, e181_8, e181_9, e181_10, e181_12, e181_15, e181_16, e181_17, e181_18, e181_20, e181_23, e181_25, e181_26, e181_28, e181_29, e181_30, e181_31, e181_32, e181_33, e181_34, e181_37, e181_38, e181_40, e181_41, e181_42, e181_43, e181_44, e181_45, e181_48, e181_49, e181_51, e181_52, e181_53, e181_55, e181_56, e181_59, e181_60, e181_61, e181_63, e181_65, e181_68, e181_69, e181_70, e181_72, e181_74, e181_75, e181_76, e181_77, e181_78, e181_79, e181_80, e181_83, e181_84, e181_85, e181_87, e181_90, e181_93, e181_94, e181_95, e181_97, e181_98, e181_99, e181_100, e181_101, e181_103, e181_104, e181_105, e181_108, e181_110, e181_111, e181_112, e181_114, e181_116, e181_118, e181_119, e181_122, e181_123, e181_124, e181_126, e181_128, e181_131, e181_132, e181_135, e181_137, e181_140, e181_141, e181_142, e181_143, e181_144, e181_145, e181_146, e181_149, e181_152, e181_153, e181_154, e181_157, e181_158, isO70, v7, q, le_not, q4', s120, hgo, w, s126_7 hi8, s126_7 hj8, s126_0 hj8, v0, lo, aft_v, aft_n, Option.bind_some, rf_some, ck_i, ck_r, ck_n, nb0, nb1, nbi, Nat.reduceAdd, if_true, if_false, not_false_eq_true, not_true_eq_false]
    · unfold stormC
      rw [hb, if_neg q, hS]
      unfold looseC
      rw [if_neg (by rw [up2_ne _ n1, up2_ne _ n1, u7_12, g12i]; exact Jm1 (by omega)), up2_ne _ n1, up2_ne _ n1, u7_12, g12i, J_tn (by omega)]
      exact R8
abbrev givC (side heading hull guns crew : Int32) : Prop := (¬ side < 0 ∧ ¬ 1 < side) ∧ (¬ heading < 0 ∧ ¬ 5 < heading) ∧ (¬ hull < 1 ∧ ¬ 60 < hull) ∧ (¬ guns < 0 ∧ ¬ 12 < guns) ∧ (¬ crew < 1 ∧ ¬ 60 < crew)
theorem s147 (a b c d e : Int32) : Run 147 0 [some (.ref (70)), some (.int (a)), some (.int (b)), some (.int (c)), some (.int (d)), some (.int (e))] [] (HC z γ π β η o od) = some (.inl (some (.int (bi (givC a b c d e)))), (HC z γ π β η o od)) := by
  by_cases q1 : (¬ a < 0 ∧ ¬ 1 < a)
  · by_cases q2 : (¬ b < 0 ∧ ¬ 5 < b)
    · by_cases q3 : (¬ c < 1 ∧ ¬ 60 < c)
      · by_cases q4 : (¬ d < 0 ∧ ¬ 12 < d)
        · by_cases q5 : (¬ e < 1 ∧ ¬ 60 < e)
          · rw [bi_t (show givC a b c d e from ⟨q1, q2, q3, q4, q5⟩)]
            simp only [↓reduceIte, e147_0, e147_1, e147_2, e147_3, e147_6, e147_9, e147_10, e147_11, e147_12, e147_15, e147_18, e147_19, e147_20, e147_22, e147_25, e147_28, e147_30, e147_31, e147_33, e147_36, e147_39, e147_41, e147_42, e147_44, e147_47, e147_50, e147_51, e147_54, e147_55, s118, bi_t q1, bi_t q2, bi_t q3, bi_t q4, bi_t q5, i1_0, aft_v, aft_n, Option.bind_some, rf_some, ck_i, ck_r, ck_n, nb0, nb1, nbi, Nat.reduceAdd, if_true, if_false, not_false_eq_true, not_true_eq_false]
          · rw [bi_f (fun w : givC a b c d e => q5 w.2.2.2.2)]
            simp only [↓reduceIte, e147_0, e147_1, e147_2, e147_3, e147_6, e147_9, e147_10, e147_11, e147_12, e147_15, e147_18, e147_19, e147_20, e147_22, e147_25, e147_28, e147_30, e147_31, e147_33, e147_36, e147_39, e147_41, e147_42, e147_44, e147_47, e147_50, e147_51, e147_54, e147_55, s118, bi_t q1, bi_t q2, bi_t q3, bi_t q4, bi_f q5, i1_0, aft_v, aft_n, Option.bind_some, rf_some, ck_i, ck_r, ck_n, nb0, nb1, nbi, Nat.reduceAdd, if_true, if_false, not_false_eq_true, not_true_eq_false]
        · rw [bi_f (fun w : givC a b c d e => q4 w.2.2.2.1)]
          simp only [↓reduceIte, e147_0, e147_1, e147_2, e147_3, e147_6, e147_9, e147_10, e147_11, e147_12, e147_15, e147_18, e147_19, e147_20, e147_22, e147_25, e147_28, e147_30, e147_31, e147_33, e147_36, e147_39, e147_41, e147_42, e147_44, e147_47, e147_50, e147_51, e147_54, e147_55, s118, bi_t q1, bi_t q2, bi_t q3, bi_f q4, i1_0, aft_v, aft_n, Option.bind_some, rf_some, ck_i, ck_r, ck_n, nb0, nb1, nbi, Nat.reduceAdd, if_true, if_false, not_false_eq_true, not_true_eq_false]
      · rw [bi_f (fun w : givC a b c d e => q3 w.2.2.1)]
        simp only [↓reduceIte, e147_0, e147_1, e147_2, e147_3, e147_6, e147_9, e147_10, e147_11, e147_12, e147_15, e147_18, e147_19, e147_20, e147_22, e147_25, e147_28, e147_30, e147_31, e147_33, e147_36, e147_39, e147_41, e147_42, e147_44, e147_47, e147_50, e147_51, e147_54, e147_55, s118, bi_t q1, bi_t q2, bi_f q3, i1_0, aft_v, aft_n, Option.bind_some, rf_some, ck_i, ck_r, ck_n, nb0, nb1, nbi, Nat.reduceAdd, if_true, if_false, not_false_eq_true, not_true_eq_false]
    · rw [bi_f (fun w : givC a b c d e => q2 w.2.1)]
      simp only [↓reduceIte, e147_0, e147_1, e147_2, e147_3, e147_6, e147_9, e147_10, e147_11, e147_12, e147_15, e147_18, e147_19, e147_20, e147_22, e147_25, e147_28, e147_30, e147_31, e147_33, e147_36, e147_39, e147_41, e147_42, e147_44, e147_47, e147_50, e147_51, e147_54, e147_55, s118, bi_t q1, bi_f q2, i1_0, aft_v, aft_n, Option.bind_some, rf_some, ck_i, ck_r, ck_n, nb0, nb1, nbi, Nat.reduceAdd, if_true, if_false, not_false_eq_true, not_true_eq_false]
  · rw [bi_f (fun w : givC a b c d e => q1 w.1)]
    simp only [↓reduceIte, e147_0, e147_1, e147_2, e147_3, e147_6, e147_9, e147_10, e147_11, e147_12, e147_15, e147_18, e147_19, e147_20, e147_22, e147_25, e147_28, e147_30, e147_31, e147_33, e147_36, e147_39, e147_41, e147_42, e147_44, e147_47, e147_50, e147_51, e147_54, e147_55, s118, bi_f q1, i1_0, aft_v, aft_n, Option.bind_some, rf_some, ck_i, ck_r, ck_n, nb0, nb1, nbi, Nat.reduceAdd, if_true, if_false, not_false_eq_true, not_true_eq_false]
theorem s150_l (H : Ok α n) (R : Rm (β 71) α n) (b : Int32) (hb : b = 0 ∨ b = 1) : ∀ k c v w, c + k = szN α → Run 150 7 [some (.ref (70)), some (.int (b)), some (.int (v)), some (.int (w)), some (.int (J c))] [] (HC z γ π β η o od) = some (.inl (some (.int (if b = 0 then cntF (fun c => ¬ α 5 c = 0) k c v else fndF (fun c => ¬ α 5 c = 0) k c w))), (HC z γ π β η o od)) := by
  have hs := H.sz
  intro k
  induction k with
  | zero =>
    intro c v w hc
    have : c = szN α := by omega
    subst this
    rcases hb with rfl | rfl <;> simp only [↓reduceIte, e150_0, e150_1, e150_2, e150_3, e150_4, e150_5, e150_7, e150_9, e150_10, e150_13, e150_16, e150_17, e150_18, e150_21, e150_23, e150_25, e150_26, e150_27, e150_28, e150_29, e150_30, e150_33, e150_35, e150_37, e150_38, e150_39, e150_40, e150_43, e150_45, e150_48, e150_49, e150_50, e150_53, e150_56, e150_57, e150_60, e150_61, e150_64, e150_65, isO70, s122 R, hs.1, Int32.le_refl, cntF, fndF, i1_0, aft_v, aft_n, Option.bind_some, rf_some, ck_i, ck_r, ck_n, nb0, nb1, nbi, Nat.reduceAdd, if_true, if_false, not_false_eq_true, not_true_eq_false]
  | succ k ih =>
    intro c v w hc
    have hc2 : c < szN α := by omega
    rw [e150_7]
    simp only [cntF, fndF]
    rw [← ih (c + 1) _ _ (by omega)]
    have hrk : gaI (HC z γ π β η o od) 71 (126 + J c) = some (α 5 c) := by rw [m71_rock R (rock_lt H hc2) H, J_tn (by omega)]
    rcases H.rk c (by omega) with q | q <;> simp only [↓reduceIte, e150_0, e150_1, e150_2, e150_3, e150_4, e150_5, e150_9, e150_10, e150_13, e150_16, e150_17, e150_18, e150_21, e150_23, e150_25, e150_26, e150_27, e150_28, e150_29, e150_30, e150_33, e150_35, e150_37, e150_38, e150_39, e150_40, e150_43, e150_45, e150_48, e150_49, e150_50, e150_53, e150_56, e150_57, e150_60, e150_61, e150_64, e150_65, isO70, gf9_0 kd_70, s122 R, hs.1, J_le (show szN α < 2147483648 by omega) (show c < 2147483648 by omega), show ¬ szN α ≤ c by omega, hrk, q, i1_0, ln0_1, Int32.add_zero, J_succ, aft_v, aft_n, Option.bind_some, rf_some, ck_i, ck_r, ck_n, nb0, nb1, nbi, Nat.reduceAdd, if_true, if_false, not_false_eq_true, not_true_eq_false]
theorem cnt_rock (H : Ok α n) : cntF (fun c => rockC α (J c)) 144 0 0 = cntF (fun c => ¬ α 5 c = 0) (szN α) 0 0 := by
  have hs := H.sz
  have h1 : ∀ k i v, i + k = 144 → szN α ≤ i → cntF (fun c => rockC α (J c)) k i v = v := by
    intro k
    induction k with
    | zero => intro i v _ _; rfl
    | succ k ih =>
      intro i v hi hz
      rw [cntF, if_neg, ih _ _ (by omega) (by omega)]
      intro w
      obtain ⟨m, hm, e⟩ := (cell_lt H).mp w.1
      rw [J_eq (by omega) (by omega)] at e
      omega
  have h2 : ∀ k i v, i + k = szN α → cntF (fun c => rockC α (J c)) k i v = cntF (fun c => ¬ α 5 c = 0) k i v := by
    intro k
    induction k with
    | zero => intro i v _; rfl
    | succ k ih =>
      intro i v hi
      have e : rockC α (J i) ↔ ¬ α 5 i = 0 := by
        constructor
        · intro w; have := w.2; rw [J_tn (by omega)] at this; exact this
        · intro w; exact ⟨rock_lt H (by omega), by rw [J_tn (by omega)]; exact w⟩
      rw [cntF, cntF, ih _ _ (by omega)]
      by_cases q : α 5 i = 0
      · rw [if_neg (fun w => e.mp w q), if_neg (fun w => w q)]
      · rw [if_pos (e.mpr q), if_pos q]
  rw [show (144 : Nat) = szN α + (144 - szN α) by omega, cnt_app, Nat.zero_add, h1 _ _ _ (by omega) (Nat.le_refl _), h2 _ _ _ (by omega)]
theorem last_rock (H : Ok α n) : lastF (fun c => rockC α (J c)) 144 = fndF (fun c => ¬ α 5 c = 0) (szN α) 0 (-1) := by
  have hs := H.sz
  have h1 : ∀ k, szN α + k ≤ 144 → lastF (fun c => rockC α (J c)) (szN α + k) = lastF (fun c => rockC α (J c)) (szN α) := by
    intro k
    induction k with
    | zero => intro _; rfl
    | succ k ih =>
      intro hk
      rw [show szN α + (k + 1) = szN α + k + 1 by omega, lastF, if_neg, ih (by omega)]
      intro w
      obtain ⟨m, hm, e⟩ := (cell_lt H).mp w.1
      rw [J_eq (by omega) (by omega)] at e
      omega
  have h2 : ∀ k, k ≤ szN α → lastF (fun c => rockC α (J c)) k = lastF (fun c => ¬ α 5 c = 0) k := by
    intro k
    induction k with
    | zero => intro _; rfl
    | succ k ih =>
      intro hk
      have e : rockC α (J k) ↔ ¬ α 5 k = 0 := by
        constructor
        · intro w; have := w.2; rw [J_tn (by omega)] at this; exact this
        · intro w; exact ⟨rock_lt H (by omega), by rw [J_tn (by omega)]; exact w⟩
      rw [lastF, lastF, ih (by omega)]
      by_cases q : α 5 k = 0
      · rw [if_neg (fun w => e.mp w q), if_neg (fun w => w q)]
      · rw [if_pos (e.mpr q), if_pos q]
  have h3 := fnd_last (fun c => ¬ α 5 c = 0) (szN α) 0
  rw [Nat.zero_add] at h3
  have h4 : lastF (fun c => ¬ α 5 c = 0) 0 = -1 := rfl
  rw [h4] at h3
  rw [h3, ← h2 _ (Nat.le_refl _), ← h1 (144 - szN α) (by omega), show szN α + (144 - szN α) = 144 by omega]
theorem s150 (H : Ok α n) (R : Rm (β 71) α n) (b : Int32) (hb : b = 0 ∨ b = 1) : Run 150 0 [some (.ref (70)), some (.int (b)), none, none, none] [] (HC z γ π β η o od) = some (.inl (some (.int (if b = 0 then cntF (fun c => rockC α (J c)) 144 0 0 else lastF (fun c => rockC α (J c)) 144))), (HC z γ π β η o od)) := by
  rw [cnt_rock H, last_rock H, ← s150_l H R b hb (szN α) 0 0 (-1) (by omega)]
  simp only [e150_0, e150_1, e150_2, e150_3, e150_4, e150_5, J0, aft_v, aft_n, Option.bind_some, rf_some, ck_i, ck_r, ck_n, nb0, nb1, nbi, Nat.reduceAdd, if_true, if_false, not_false_eq_true, not_true_eq_false]
theorem s151_0 (H : Ok α n) (R : Rm (β 71) α n) : Run 151 0 [some (.ref (70)), some (.int (0))] [] (HC z γ π β η o od) = some (.inl (some (.int (valC α n 0))), (HC z γ π β η o od)) := by
  simp only [↓reduceIte, e151_0, e151_1, e151_3, e151_6, e151_7, e151_10, e151_11, e151_12, e151_15, e151_16, e151_18, e151_21, e151_22, e151_23, e151_25, e151_26, e151_29, e151_32, e151_33, e151_34, e151_36, e151_39, e151_40, e151_43, e151_44, e151_47, gf9_0 kd_70, isO70, m71_0 R, show ((6 : Int32) ≤ 0) = False from eq_false (by decide), show ((8 : Int32) ≤ 0) = False from eq_false (by decide), show ((0 : Int32) = 9) = False from eq_false (by decide), i1_0, valC, aft_v, aft_n, Option.bind_some, rf_some, ck_i, ck_r, ck_n, nb0, nb1, nbi, Nat.reduceAdd, if_true, if_false, not_false_eq_true, not_true_eq_false]
theorem s151_1 (H : Ok α n) (R : Rm (β 71) α n) : Run 151 0 [some (.ref (70)), some (.int (1))] [] (HC z γ π β η o od) = some (.inl (some (.int (valC α n 1))), (HC z γ π β η o od)) := by
  simp only [↓reduceIte, e151_0, e151_1, e151_3, e151_6, e151_7, e151_10, e151_11, e151_12, e151_15, e151_16, e151_18, e151_21, e151_22, e151_23, e151_25, e151_26, e151_29, e151_32, e151_33, e151_34, e151_36, e151_39, e151_40, e151_43, e151_44, e151_47, gf9_0 kd_70, isO70, m71_1 R, show ((6 : Int32) ≤ 1) = False from eq_false (by decide), show ((8 : Int32) ≤ 1) = False from eq_false (by decide), show ((1 : Int32) = 9) = False from eq_false (by decide), i1_0, valC, aft_v, aft_n, Option.bind_some, rf_some, ck_i, ck_r, ck_n, nb0, nb1, nbi, Nat.reduceAdd, if_true, if_false, not_false_eq_true, not_true_eq_false]
theorem s151_2 (H : Ok α n) (R : Rm (β 71) α n) : Run 151 0 [some (.ref (70)), some (.int (2))] [] (HC z γ π β η o od) = some (.inl (some (.int (valC α n 2))), (HC z γ π β η o od)) := by
  simp only [↓reduceIte, e151_0, e151_1, e151_3, e151_6, e151_7, e151_10, e151_11, e151_12, e151_15, e151_16, e151_18, e151_21, e151_22, e151_23, e151_25, e151_26, e151_29, e151_32, e151_33, e151_34, e151_36, e151_39, e151_40, e151_43, e151_44, e151_47, gf9_0 kd_70, isO70, m71_2 R, show ((6 : Int32) ≤ 2) = False from eq_false (by decide), show ((8 : Int32) ≤ 2) = False from eq_false (by decide), show ((2 : Int32) = 9) = False from eq_false (by decide), i1_0, valC, aft_v, aft_n, Option.bind_some, rf_some, ck_i, ck_r, ck_n, nb0, nb1, nbi, Nat.reduceAdd, if_true, if_false, not_false_eq_true, not_true_eq_false]
theorem s151_3 (H : Ok α n) (R : Rm (β 71) α n) : Run 151 0 [some (.ref (70)), some (.int (3))] [] (HC z γ π β η o od) = some (.inl (some (.int (valC α n 3))), (HC z γ π β η o od)) := by
  simp only [↓reduceIte, e151_0, e151_1, e151_3, e151_6, e151_7, e151_10, e151_11, e151_12, e151_15, e151_16, e151_18, e151_21, e151_22, e151_23, e151_25, e151_26, e151_29, e151_32, e151_33, e151_34, e151_36, e151_39, e151_40, e151_43, e151_44, e151_47, gf9_0 kd_70, isO70, m71_3 R, show ((6 : Int32) ≤ 3) = False from eq_false (by decide), show ((8 : Int32) ≤ 3) = False from eq_false (by decide), show ((3 : Int32) = 9) = False from eq_false (by decide), i1_0, valC, aft_v, aft_n, Option.bind_some, rf_some, ck_i, ck_r, ck_n, nb0, nb1, nbi, Nat.reduceAdd, if_true, if_false, not_false_eq_true, not_true_eq_false]
theorem s151_4 (H : Ok α n) (R : Rm (β 71) α n) : Run 151 0 [some (.ref (70)), some (.int (4))] [] (HC z γ π β η o od) = some (.inl (some (.int (valC α n 4))), (HC z γ π β η o od)) := by
  simp only [↓reduceIte, e151_0, e151_1, e151_3, e151_6, e151_7, e151_10, e151_11, e151_12, e151_15, e151_16, e151_18, e151_21, e151_22, e151_23, e151_25, e151_26, e151_29, e151_32, e151_33, e151_34, e151_36, e151_39, e151_40, e151_43, e151_44, e151_47, gf9_0 kd_70, isO70, m71_4 R, show ((6 : Int32) ≤ 4) = False from eq_false (by decide), show ((8 : Int32) ≤ 4) = False from eq_false (by decide), show ((4 : Int32) = 9) = False from eq_false (by decide), i1_0, valC, aft_v, aft_n, Option.bind_some, rf_some, ck_i, ck_r, ck_n, nb0, nb1, nbi, Nat.reduceAdd, if_true, if_false, not_false_eq_true, not_true_eq_false]
theorem s151_5 (H : Ok α n) (R : Rm (β 71) α n) : Run 151 0 [some (.ref (70)), some (.int (5))] [] (HC z γ π β η o od) = some (.inl (some (.int (valC α n 5))), (HC z γ π β η o od)) := by
  simp only [↓reduceIte, e151_0, e151_1, e151_3, e151_6, e151_7, e151_10, e151_11, e151_12, e151_15, e151_16, e151_18, e151_21, e151_22, e151_23, e151_25, e151_26, e151_29, e151_32, e151_33, e151_34, e151_36, e151_39, e151_40, e151_43, e151_44, e151_47, gf9_0 kd_70, isO70, m71_5 R, show ((6 : Int32) ≤ 5) = False from eq_false (by decide), show ((8 : Int32) ≤ 5) = False from eq_false (by decide), show ((5 : Int32) = 9) = False from eq_false (by decide), i1_0, valC, aft_v, aft_n, Option.bind_some, rf_some, ck_i, ck_r, ck_n, nb0, nb1, nbi, Nat.reduceAdd, if_true, if_false, not_false_eq_true, not_true_eq_false]
theorem s151_6 (H : Ok α n) (R : Rm (β 71) α n) : Run 151 0 [some (.ref (70)), some (.int (6))] [] (HC z γ π β η o od) = some (.inl (some (.int (valC α n 6))), (HC z γ π β η o od)) := by
  simp only [↓reduceIte, e151_0, e151_1, e151_3, e151_6, e151_7, e151_10, e151_11, e151_12, e151_15, e151_16, e151_18, e151_21, e151_22, e151_23, e151_25, e151_26, e151_29, e151_32, e151_33, e151_34, e151_36, e151_39, e151_40, e151_43, e151_44, e151_47, gf9_0 kd_70, isO70, s149 H R, show ((6 : Int32) ≤ 6) = True from eq_true (by decide), show ((8 : Int32) ≤ 6) = False from eq_false (by decide), show ((6 : Int32) = 9) = False from eq_false (by decide), show ((6 : Int32) - 6) = 0 by decide, i1_0, valC, aft_v, aft_n, Option.bind_some, rf_some, ck_i, ck_r, ck_n, nb0, nb1, nbi, Nat.reduceAdd, if_true, if_false, not_false_eq_true, not_true_eq_false]
theorem s151_7 (H : Ok α n) (R : Rm (β 71) α n) : Run 151 0 [some (.ref (70)), some (.int (7))] [] (HC z γ π β η o od) = some (.inl (some (.int (valC α n 7))), (HC z γ π β η o od)) := by
  simp only [↓reduceIte, e151_0, e151_1, e151_3, e151_6, e151_7, e151_10, e151_11, e151_12, e151_15, e151_16, e151_18, e151_21, e151_22, e151_23, e151_25, e151_26, e151_29, e151_32, e151_33, e151_34, e151_36, e151_39, e151_40, e151_43, e151_44, e151_47, gf9_0 kd_70, isO70, s149 H R, show ((6 : Int32) ≤ 7) = True from eq_true (by decide), show ((8 : Int32) ≤ 7) = False from eq_false (by decide), show ((7 : Int32) = 9) = False from eq_false (by decide), show ((7 : Int32) - 6) = 1 by decide, i1_0, valC, aft_v, aft_n, Option.bind_some, rf_some, ck_i, ck_r, ck_n, nb0, nb1, nbi, Nat.reduceAdd, if_true, if_false, not_false_eq_true, not_true_eq_false]
theorem s151_8 (H : Ok α n) (R : Rm (β 71) α n) : Run 151 0 [some (.ref (70)), some (.int (8))] [] (HC z γ π β η o od) = some (.inl (some (.int (valC α n 8))), (HC z γ π β η o od)) := by
  simp only [↓reduceIte, e151_0, e151_1, e151_3, e151_6, e151_7, e151_10, e151_11, e151_12, e151_15, e151_16, e151_18, e151_21, e151_22, e151_23, e151_25, e151_26, e151_29, e151_32, e151_33, e151_34, e151_36, e151_39, e151_40, e151_43, e151_44, e151_47, gf9_0 kd_70, isO70, s150 H R 0 (Or.inl rfl), s150 H R 1 (Or.inr rfl), show ((6 : Int32) ≤ 8) = True from eq_true (by decide), show ((8 : Int32) ≤ 8) = True from eq_true (by decide), show ((8 : Int32) = 9) = False from eq_false (by decide), i1_0, valC, aft_v, aft_n, Option.bind_some, rf_some, ck_i, ck_r, ck_n, nb0, nb1, nbi, Nat.reduceAdd, if_true, if_false, not_false_eq_true, not_true_eq_false]
theorem s151_9 (H : Ok α n) (R : Rm (β 71) α n) : Run 151 0 [some (.ref (70)), some (.int (9))] [] (HC z γ π β η o od) = some (.inl (some (.int (valC α n 9))), (HC z γ π β η o od)) := by
  simp only [↓reduceIte, e151_0, e151_1, e151_3, e151_6, e151_7, e151_10, e151_11, e151_12, e151_15, e151_16, e151_18, e151_21, e151_22, e151_23, e151_25, e151_26, e151_29, e151_32, e151_33, e151_34, e151_36, e151_39, e151_40, e151_43, e151_44, e151_47, gf9_0 kd_70, isO70, s150 H R 0 (Or.inl rfl), s150 H R 1 (Or.inr rfl), show ((6 : Int32) ≤ 9) = True from eq_true (by decide), show ((8 : Int32) ≤ 9) = True from eq_true (by decide), show ((9 : Int32) = 9) = True from eq_true (by decide), i1_0, valC, aft_v, aft_n, Option.bind_some, rf_some, ck_i, ck_r, ck_n, nb0, nb1, nbi, Nat.reduceAdd, if_true, if_false, not_false_eq_true, not_true_eq_false]
theorem s151 (H : Ok α n) (R : Rm (β 71) α n) {w : Nat} (hw : w < 10) : Run 151 0 [some (.ref (70)), some (.int (J w))] [] (HC z γ π β η o od) = some (.inl (some (.int (valC α n w))), (HC z γ π β η o od)) := by
  have h : w = 0 ∨ w = 1 ∨ w = 2 ∨ w = 3 ∨ w = 4 ∨ w = 5 ∨ w = 6 ∨ w = 7 ∨ w = 8 ∨ w = 9 := by omega
  rcases h with rfl | rfl | rfl | rfl | rfl | rfl | rfl | rfl | rfl | rfl
  · exact s151_0 H R
  · exact s151_1 H R
  · exact s151_2 H R
  · exact s151_3 H R
  · exact s151_4 H R
  · exact s151_5 H R
  · exact s151_6 H R
  · exact s151_7 H R
  · exact s151_8 H R
  · exact s151_9 H R
theorem s153_0 (H : Ok α n) (R : Rm (β 71) α n) {i : Nat} (hi : i < n) : Run 153 0 [some (.ref (70)), some (.int (J i)), some (.int (0))] [] (HC z γ π β η o od) = some (.inl (some (.int (shpC α (7 + i) (hdA α (7 + i)) (wdN α) 0))), (HC z γ π β η o od)) := by
  have h8 := H.n8
  simp only [↓reduceIte, e153_0, e153_44, e153_45, e153_46, e153_49, e153_52, e153_53, e153_54, e153_55, e153_58, e153_61, e153_62, e153_63, e153_64, e153_65, e153_68, e153_69, e153_70, e153_71, e153_72, e153_75, e153_76, e153_79, e153_80, e153_81, e153_84, e153_85, e153_86, e153_87, e153_89, e153_92, e153_93, e153_94, e153_95, e153_96, e153_99, e153_1_d (x := 0) (by decide), isO70, s125_0 R h8 hi, shpC, aft_v, aft_n, Option.bind_some, rf_some, ck_i, ck_r, ck_n, nb0, nb1, nbi, Nat.reduceAdd, if_true, if_false, not_false_eq_true, not_true_eq_false]
theorem s153_1 (H : Ok α n) (R : Rm (β 71) α n) {i : Nat} (hi : i < n) : Run 153 0 [some (.ref (70)), some (.int (J i)), some (.int (1))] [] (HC z γ π β η o od) = some (.inl (some (.int (shpC α (7 + i) (hdA α (7 + i)) (wdN α) 1))), (HC z γ π β η o od)) := by
  have h8 := H.n8
  by_cases q : 0 < α (7 + i) 3 <;> simp only [↓reduceIte, e153_0, e153_44, e153_45, e153_46, e153_49, e153_52, e153_53, e153_54, e153_55, e153_58, e153_61, e153_62, e153_63, e153_64, e153_65, e153_68, e153_69, e153_70, e153_71, e153_72, e153_75, e153_76, e153_79, e153_80, e153_81, e153_84, e153_85, e153_86, e153_87, e153_89, e153_92, e153_93, e153_94, e153_95, e153_96, e153_99, e153_1_1, isO70, s127 R h8 hi, s125_1 R h8 hi, bi0, q, shpC, aft_v, aft_n, Option.bind_some, rf_some, ck_i, ck_r, ck_n, nb0, nb1, nbi, Nat.reduceAdd, if_true, if_false, not_false_eq_true, not_true_eq_false]
theorem s153_2 (H : Ok α n) (R : Rm (β 71) α n) {i : Nat} (hi : i < n) : Run 153 0 [some (.ref (70)), some (.int (J i)), some (.int (2))] [] (HC z γ π β η o od) = some (.inl (some (.int (shpC α (7 + i) (hdA α (7 + i)) (wdN α) 2))), (HC z γ π β η o od)) := by
  have h8 := H.n8
  simp only [↓reduceIte, e153_0, e153_44, e153_45, e153_46, e153_49, e153_52, e153_53, e153_54, e153_55, e153_58, e153_61, e153_62, e153_63, e153_64, e153_65, e153_68, e153_69, e153_70, e153_71, e153_72, e153_75, e153_76, e153_79, e153_80, e153_81, e153_84, e153_85, e153_86, e153_87, e153_89, e153_92, e153_93, e153_94, e153_95, e153_96, e153_99, e153_1_d (x := 2) (by decide), isO70, s125_2 R h8 hi, shpC, aft_v, aft_n, Option.bind_some, rf_some, ck_i, ck_r, ck_n, nb0, nb1, nbi, Nat.reduceAdd, if_true, if_false, not_false_eq_true, not_true_eq_false]
theorem s153_3 (H : Ok α n) (R : Rm (β 71) α n) {i : Nat} (hi : i < n) : Run 153 0 [some (.ref (70)), some (.int (J i)), some (.int (3))] [] (HC z γ π β η o od) = some (.inl (some (.int (shpC α (7 + i) (hdA α (7 + i)) (wdN α) 3))), (HC z γ π β η o od)) := by
  have h8 := H.n8
  simp only [↓reduceIte, e153_0, e153_44, e153_45, e153_46, e153_49, e153_52, e153_53, e153_54, e153_55, e153_58, e153_61, e153_62, e153_63, e153_64, e153_65, e153_68, e153_69, e153_70, e153_71, e153_72, e153_75, e153_76, e153_79, e153_80, e153_81, e153_84, e153_85, e153_86, e153_87, e153_89, e153_92, e153_93, e153_94, e153_95, e153_96, e153_99, e153_1_d (x := 3) (by decide), isO70, s125_3 R h8 hi, shpC, aft_v, aft_n, Option.bind_some, rf_some, ck_i, ck_r, ck_n, nb0, nb1, nbi, Nat.reduceAdd, if_true, if_false, not_false_eq_true, not_true_eq_false]
theorem s153_4 (H : Ok α n) (R : Rm (β 71) α n) {i : Nat} (hi : i < n) : Run 153 0 [some (.ref (70)), some (.int (J i)), some (.int (4))] [] (HC z γ π β η o od) = some (.inl (some (.int (shpC α (7 + i) (hdA α (7 + i)) (wdN α) 4))), (HC z γ π β η o od)) := by
  have h8 := H.n8
  simp only [↓reduceIte, e153_0, e153_44, e153_45, e153_46, e153_49, e153_52, e153_53, e153_54, e153_55, e153_58, e153_61, e153_62, e153_63, e153_64, e153_65, e153_68, e153_69, e153_70, e153_71, e153_72, e153_75, e153_76, e153_79, e153_80, e153_81, e153_84, e153_85, e153_86, e153_87, e153_89, e153_92, e153_93, e153_94, e153_95, e153_96, e153_99, e153_1_d (x := 4) (by decide), isO70, s125_4 R h8 hi, shpC, aft_v, aft_n, Option.bind_some, rf_some, ck_i, ck_r, ck_n, nb0, nb1, nbi, Nat.reduceAdd, if_true, if_false, not_false_eq_true, not_true_eq_false]
theorem s153_5 (H : Ok α n) (R : Rm (β 71) α n) {i : Nat} (hi : i < n) : Run 153 0 [some (.ref (70)), some (.int (J i)), some (.int (5))] [] (HC z γ π β η o od) = some (.inl (some (.int (shpC α (7 + i) (hdA α (7 + i)) (wdN α) 5))), (HC z γ π β η o od)) := by
  have h8 := H.n8
  simp only [↓reduceIte, e153_0, e153_44, e153_45, e153_46, e153_49, e153_52, e153_53, e153_54, e153_55, e153_58, e153_61, e153_62, e153_63, e153_64, e153_65, e153_68, e153_69, e153_70, e153_71, e153_72, e153_75, e153_76, e153_79, e153_80, e153_81, e153_84, e153_85, e153_86, e153_87, e153_89, e153_92, e153_93, e153_94, e153_95, e153_96, e153_99, e153_1_d (x := 5) (by decide), isO70, s125_5 R h8 hi, shpC, aft_v, aft_n, Option.bind_some, rf_some, ck_i, ck_r, ck_n, nb0, nb1, nbi, Nat.reduceAdd, if_true, if_false, not_false_eq_true, not_true_eq_false]
theorem s153_6 (H : Ok α n) (R : Rm (β 71) α n) {i : Nat} (hi : i < n) : Run 153 0 [some (.ref (70)), some (.int (J i)), some (.int (6))] [] (HC z γ π β η o od) = some (.inl (some (.int (shpC α (7 + i) (hdA α (7 + i)) (wdN α) 6))), (HC z γ π β η o od)) := by
  have h8 := H.n8
  simp only [↓reduceIte, e153_0, e153_44, e153_45, e153_46, e153_49, e153_52, e153_53, e153_54, e153_55, e153_58, e153_61, e153_62, e153_63, e153_64, e153_65, e153_68, e153_69, e153_70, e153_71, e153_72, e153_75, e153_76, e153_79, e153_80, e153_81, e153_84, e153_85, e153_86, e153_87, e153_89, e153_92, e153_93, e153_94, e153_95, e153_96, e153_99, e153_1_d (x := 6) (by decide), isO70, s125_6 R h8 hi, shpC, aft_v, aft_n, Option.bind_some, rf_some, ck_i, ck_r, ck_n, nb0, nb1, nbi, Nat.reduceAdd, if_true, if_false, not_false_eq_true, not_true_eq_false]
theorem s153_7 (H : Ok α n) (R : Rm (β 71) α n) {i : Nat} (hi : i < n) : Run 153 0 [some (.ref (70)), some (.int (J i)), some (.int (7))] [] (HC z γ π β η o od) = some (.inl (some (.int (shpC α (7 + i) (hdA α (7 + i)) (wdN α) 7))), (HC z γ π β η o od)) := by
  have h8 := H.n8
  simp only [↓reduceIte, e153_0, e153_44, e153_45, e153_46, e153_49, e153_52, e153_53, e153_54, e153_55, e153_58, e153_61, e153_62, e153_63, e153_64, e153_65, e153_68, e153_69, e153_70, e153_71, e153_72, e153_75, e153_76, e153_79, e153_80, e153_81, e153_84, e153_85, e153_86, e153_87, e153_89, e153_92, e153_93, e153_94, e153_95, e153_96, e153_99, e153_1_d (x := 7) (by decide), isO70, s125_7 R h8 hi, shpC, aft_v, aft_n, Option.bind_some, rf_some, ck_i, ck_r, ck_n, nb0, nb1, nbi, Nat.reduceAdd, if_true, if_false, not_false_eq_true, not_true_eq_false]
theorem s153_8 (H : Ok α n) (R : Rm (β 71) α n) {i : Nat} (hi : i < n) : Run 153 0 [some (.ref (70)), some (.int (J i)), some (.int (8))] [] (HC z γ π β η o od) = some (.inl (some (.int (shpC α (7 + i) (hdA α (7 + i)) (wdN α) 8))), (HC z γ π β η o od)) := by
  have h8 := H.n8
  simp only [↓reduceIte, e153_0, e153_44, e153_45, e153_46, e153_49, e153_52, e153_53, e153_54, e153_55, e153_58, e153_61, e153_62, e153_63, e153_64, e153_65, e153_68, e153_69, e153_70, e153_71, e153_72, e153_75, e153_76, e153_79, e153_80, e153_81, e153_84, e153_85, e153_86, e153_87, e153_89, e153_92, e153_93, e153_94, e153_95, e153_96, e153_99, e153_1_d (x := 8) (by decide), isO70, s125_8 R h8 hi, shpC, aft_v, aft_n, Option.bind_some, rf_some, ck_i, ck_r, ck_n, nb0, nb1, nbi, Nat.reduceAdd, if_true, if_false, not_false_eq_true, not_true_eq_false]
theorem s153_9 (H : Ok α n) (R : Rm (β 71) α n) {i : Nat} (hi : i < n) : Run 153 0 [some (.ref (70)), some (.int (J i)), some (.int (9))] [] (HC z γ π β η o od) = some (.inl (some (.int (shpC α (7 + i) (hdA α (7 + i)) (wdN α) 9))), (HC z γ π β η o od)) := by
  have h8 := H.n8
  simp only [↓reduceIte, e153_0, e153_44, e153_45, e153_46, e153_49, e153_52, e153_53, e153_54, e153_55, e153_58, e153_61, e153_62, e153_63, e153_64, e153_65, e153_68, e153_69, e153_70, e153_71, e153_72, e153_75, e153_76, e153_79, e153_80, e153_81, e153_84, e153_85, e153_86, e153_87, e153_89, e153_92, e153_93, e153_94, e153_95, e153_96, e153_99, e153_1_d (x := 9) (by decide), isO70, s125_9 R h8 hi, shpC, aft_v, aft_n, Option.bind_some, rf_some, ck_i, ck_r, ck_n, nb0, nb1, nbi, Nat.reduceAdd, if_true, if_false, not_false_eq_true, not_true_eq_false]
theorem s153_10 (H : Ok α n) (R : Rm (β 71) α n) {i : Nat} (hi : i < n) : Run 153 0 [some (.ref (70)), some (.int (J i)), some (.int (10))] [] (HC z γ π β η o od) = some (.inl (some (.int (shpC α (7 + i) (hdA α (7 + i)) (wdN α) 10))), (HC z γ π β η o od)) := by
  have h8 := H.n8
  simp only [↓reduceIte, e153_0, e153_44, e153_45, e153_46, e153_49, e153_52, e153_53, e153_54, e153_55, e153_58, e153_61, e153_62, e153_63, e153_64, e153_65, e153_68, e153_69, e153_70, e153_71, e153_72, e153_75, e153_76, e153_79, e153_80, e153_81, e153_84, e153_85, e153_86, e153_87, e153_89, e153_92, e153_93, e153_94, e153_95, e153_96, e153_99, e153_1_d (x := 10) (by decide), isO70, s125_10 R h8 hi, shpC, aft_v, aft_n, Option.bind_some, rf_some, ck_i, ck_r, ck_n, nb0, nb1, nbi, Nat.reduceAdd, if_true, if_false, not_false_eq_true, not_true_eq_false]
theorem s153_11 (H : Ok α n) (R : Rm (β 71) α n) {i : Nat} (hi : i < n) : Run 153 0 [some (.ref (70)), some (.int (J i)), some (.int (11))] [] (HC z γ π β η o od) = some (.inl (some (.int (shpC α (7 + i) (hdA α (7 + i)) (wdN α) 11))), (HC z γ π β η o od)) := by
  have h8 := H.n8
  simp only [↓reduceIte, e153_0, e153_44, e153_45, e153_46, e153_49, e153_52, e153_53, e153_54, e153_55, e153_58, e153_61, e153_62, e153_63, e153_64, e153_65, e153_68, e153_69, e153_70, e153_71, e153_72, e153_75, e153_76, e153_79, e153_80, e153_81, e153_84, e153_85, e153_86, e153_87, e153_89, e153_92, e153_93, e153_94, e153_95, e153_96, e153_99, e153_1_d (x := 11) (by decide), isO70, s125_11 R h8 hi, shpC, aft_v, aft_n, Option.bind_some, rf_some, ck_i, ck_r, ck_n, nb0, nb1, nbi, Nat.reduceAdd, if_true, if_false, not_false_eq_true, not_true_eq_false]
theorem s153_12 (H : Ok α n) (R : Rm (β 71) α n) {i : Nat} (hi : i < n) : Run 153 0 [some (.ref (70)), some (.int (J i)), some (.int (12))] [] (HC z γ π β η o od) = some (.inl (some (.int (shpC α (7 + i) (hdA α (7 + i)) (wdN α) 12))), (HC z γ π β η o od)) := by
  have h8 := H.n8
  simp only [↓reduceIte, e153_0, e153_44, e153_45, e153_46, e153_49, e153_52, e153_53, e153_54, e153_55, e153_58, e153_61, e153_62, e153_63, e153_64, e153_65, e153_68, e153_69, e153_70, e153_71, e153_72, e153_75, e153_76, e153_79, e153_80, e153_81, e153_84, e153_85, e153_86, e153_87, e153_89, e153_92, e153_93, e153_94, e153_95, e153_96, e153_99, e153_1_12, isO70, s145 H R hi, shpC, aft_v, aft_n, Option.bind_some, rf_some, ck_i, ck_r, ck_n, nb0, nb1, nbi, Nat.reduceAdd, if_true, if_false, not_false_eq_true, not_true_eq_false]
theorem s153_13 (H : Ok α n) (R : Rm (β 71) α n) {i : Nat} (hi : i < n) : Run 153 0 [some (.ref (70)), some (.int (J i)), some (.int (13))] [] (HC z γ π β η o od) = some (.inl (some (.int (shpC α (7 + i) (hdA α (7 + i)) (wdN α) 13))), (HC z γ π β η o od)) := by
  have h8 := H.n8
  have hd := H.hdJ hi
  have e1 : Run 143 0 [some (.int (α (7 + i) 2)), some (.int (α 4 2)), none] [] (HC z γ π β η o od) = some (.inl (some (.int (J (angN (hdA α (7 + i)) (wdN α))))), (HC z γ π β η o od)) := by rw [hd.2, H.wdJ.2]; exact s143 hd.1 H.wdJ.1
  simp only [↓reduceIte, e153_0, e153_44, e153_45, e153_46, e153_49, e153_52, e153_53, e153_54, e153_55, e153_58, e153_61, e153_62, e153_63, e153_64, e153_65, e153_68, e153_69, e153_70, e153_71, e153_72, e153_75, e153_76, e153_79, e153_80, e153_81, e153_84, e153_85, e153_86, e153_87, e153_89, e153_92, e153_93, e153_94, e153_95, e153_96, e153_99, e153_1_13, isO70, gf9_0 kd_70, s125_2 R h8 hi, m71_2 R, e1, shpC, aft_v, aft_n, Option.bind_some, rf_some, ck_i, ck_r, ck_n, nb0, nb1, nbi, Nat.reduceAdd, if_true, if_false, not_false_eq_true, not_true_eq_false]
theorem s153_14 (H : Ok α n) (R : Rm (β 71) α n) {i : Nat} (hi : i < n) : Run 153 0 [some (.ref (70)), some (.int (J i)), some (.int (14))] [] (HC z γ π β η o od) = some (.inl (some (.int (shpC α (7 + i) (hdA α (7 + i)) (wdN α) 14))), (HC z γ π β η o od)) := by
  have h8 := H.n8
  simp only [↓reduceIte, e153_0, e153_44, e153_45, e153_46, e153_49, e153_52, e153_53, e153_54, e153_55, e153_58, e153_61, e153_62, e153_63, e153_64, e153_65, e153_68, e153_69, e153_70, e153_71, e153_72, e153_75, e153_76, e153_79, e153_80, e153_81, e153_84, e153_85, e153_86, e153_87, e153_89, e153_92, e153_93, e153_94, e153_95, e153_96, e153_99, e153_1_14, isO70, s125_14 R h8 hi, shpC, aft_v, aft_n, Option.bind_some, rf_some, ck_i, ck_r, ck_n, nb0, nb1, nbi, Nat.reduceAdd, if_true, if_false, not_false_eq_true, not_true_eq_false]
theorem s153 (H : Ok α n) (R : Rm (β 71) α n) {i : Nat} (hi : i < n) {w : Nat} (hw : w < 15) : Run 153 0 [some (.ref (70)), some (.int (J i)), some (.int (J w))] [] (HC z γ π β η o od) = some (.inl (some (.int (shpC α (7 + i) (hdA α (7 + i)) (wdN α) w))), (HC z γ π β η o od)) := by
  have h : w = 0 ∨ w = 1 ∨ w = 2 ∨ w = 3 ∨ w = 4 ∨ w = 5 ∨ w = 6 ∨ w = 7 ∨ w = 8 ∨ w = 9 ∨ w = 10 ∨ w = 11 ∨ w = 12 ∨ w = 13 ∨ w = 14 := by omega
  rcases h with rfl | rfl | rfl | rfl | rfl | rfl | rfl | rfl | rfl | rfl | rfl | rfl | rfl | rfl | rfl
  · exact s153_0 H R hi
  · exact s153_1 H R hi
  · exact s153_2 H R hi
  · exact s153_3 H R hi
  · exact s153_4 H R hi
  · exact s153_5 H R hi
  · exact s153_6 H R hi
  · exact s153_7 H R hi
  · exact s153_8 H R hi
  · exact s153_9 H R hi
  · exact s153_10 H R hi
  · exact s153_11 H R hi
  · exact s153_12 H R hi
  · exact s153_13 H R hi
  · exact s153_14 H R hi
end S51
