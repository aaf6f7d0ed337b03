/-! the model's way to what can be reached -/
def lf (β : Mem) (pt : Nat → Int32) : Nat → Int32 := fun j => if j < 1728 then pt j else β 74 j
def ML (β : Mem) (pt : Nat → Int32) : Mem := upA β 74 (lf β pt)
theorem lf_up (β : Mem) (pt : Nat → Int32) {t : Nat} (ht : t < 1728) (v : Int32) : upd (lf β pt) t v = lf β (upd pt t v) := by
  funext j
  by_cases h : j = t
  · subst h; rw [upd_at]; unfold lf; rw [if_pos ht, upd_at]
  · rw [upd_ne _ h]
    unfold lf
    split
    · rw [upd_ne _ h]
    · rfl
theorem ML_o (β : Mem) (pt : Nat → Int32) {j : Nat} (h : j ≠ 74) : ML β pt j = β j := upA_ne _ h _
theorem ML_at (β : Mem) (pt : Nat → Int32) {t : Nat} (ht : t < 1728) : ML β pt 74 t = pt t := by
  unfold ML; rw [upA_at]; unfold lf; rw [if_pos ht]
theorem ML_up (β : Mem) (pt : Nat → Int32) {t : Nat} (ht : t < 1728) (v : Int32) : up2 (ML β pt) 74 t v = ML β (upd pt t v) := by
  unfold ML; rw [up2_upAt, lf_up β pt ht]
theorem Rm_ML {β α : Mem} {n : Nat} (R : Rm (β 71) α n) (pt : Nat → Int32) : Rm (ML β pt 71) α n := by rw [ML_o _ _ (by decide)]; exact R
theorem Mq_ML (β : Mem) (pt : Nat → Int32) : Mq β (ML β pt) := Mq_74 β _
theorem in74 {t : Nat} (ht : t < 1728) : inB (J t) (aln 74) = true := by rw [al74]; exact inB_J ht (by omega)
theorem cnt_nb (p : Nat → Prop) [DecidablePred p] : ∀ k i (v : Int32), (∀ y, i ≤ y → y < i + k → ¬ p y) → cntF p k i v = v := by
  intro k
  induction k with
  | zero => intro i v _; rfl
  | succ k ih => intro i v h; rw [cntF, if_neg (h i (by omega) (by omega)), ih _ _ (fun y h1 h2 => h y (by omega) (by omega))]
theorem cnt_cut (p : Nat → Prop) [DecidablePred p] {N : Nat} (hN : N ≤ 144) (h : ∀ x, N ≤ x → x < 144 → ¬ p x) : cntF p 144 0 0 = cntF p N 0 0 := by
  rw [show (144 : Nat) = N + (144 - N) by omega, cnt_app, cnt_nb p _ _ _ (fun y h1 h2 => h y (by omega) (by omega))]
theorem Vd_lt {α : Mem} {n : Nat} (H : Ok α n) {pt : Nat → Int32} (V : Vd α pt) {s : Nat} (hs : s < 1728) (hp : ¬ pt s = -1) : s < 12 * szN α := by
  obtain ⟨k, hk, e⟩ := (cell_lt H).mp (V s hs hp)
  have := H.sz.2
  rw [J_eq (by omega) (by omega)] at e
  omega
theorem Vd_mx {α : Mem} {n : Nat} (H : Ok α n) {pt : Nat → Int32} (V : Vd α pt) {x : Nat} (hx : szN α ≤ x) (hx2 : x < 144) : mxP pt x = -1 := by
  have h : ∀ b, b < 12 → pt (12 * x + b) = -1 := fun b hb => by
    by_cases q : pt (12 * x + b) = -1
    · exact q
    · have := Vd_lt H V (show 12 * x + b < 1728 by omega) q
      omega
  exact mx_eq (by decide) (fun b hb => by rw [h b hb, tim1]; decide) (Or.inl rfl)
theorem Vd_0 {α : Mem} {n : Nat} (H : Ok α n) {i : Nat} (hi : i < n) : Vd α (pts0 α i) := by
  obtain ⟨c1, c2⟩ := H.clJ hi
  obtain ⟨w1, w2⟩ := H.wyJ hi
  have hd := H.hdJ hi
  intro t ht hp
  unfold pts0 at hp
  rw [upt_at] at hp
  split at hp
  · next w =>
    rw [← w.2, show (12 * (α (7 + i) 1).toNatClampNeg + (2 * hdA α (7 + i) + (α (7 + i) 14).toNatClampNeg)) / 12 = (α (7 + i) 1).toNatClampNeg by have := hd.1; omega, ← c1]
    exact H.isC hi
  · exact absurd rfl hp
theorem Gd_0 {α : Mem} {n : Nat} (H : Ok α n) {i : Nat} (hi : i < n) : Gd (pts0 α i) (α (7 + i) 9) := Gd_upt (fun t _ => Or.inl rfl) _
section S69
variable {z : Zr} {α β γ : Mem} {π : Nat → Nat} {η : Int64} {o : Nat → Int64} {od : Nat → UInt64} {n k : Nat}
theorem s183 (x h w : Nat) : Run 183 0 [some (.ref (70)), some (.int (J x)), some (.int (J h)), some (.int (J w))] [] (HC z γ π β η o od) = some (.inl (some (.int (J (12 * x + (2 * h + w))))), (HC z γ π β η o od)) := by
  have e : 12 * J x + 2 * J h + J w = J (12 * x + (2 * h + w)) := by
    rw [show (12 : Int32) = J 12 from rfl, show (2 : Int32) = J 2 from rfl, J_mul, J_mul, J_add, J_add, Nat.add_assoc]
  simp only [↓reduceIte, e183_0, e183_2, e183_3, e183_4, e183_5, e183_6, e183_7, e183_8, e183_9, e183_10, e, aft_v, aft_n, Option.bind_some, rf_some, ck_i, ck_r, ck_n, nb0, nb1, nbi, Nat.reduceAdd, if_true, if_false, not_false_eq_true, not_true_eq_false]
theorem s184 (H : Ok α n) (R : Rm (β 71) α n) {i : Nat} (hi : i < n) {c : Int32} (hc : c = -1 ∨ isCellC α 4 c) : Run 184 0 [some (.ref (70)), some (.int (J i)), some (.int (c))] [] (HC z γ π β η o od) = some (.inl (some (.int (bi (c = α (7 + i) 1 ∨ freeC α n c)))), (HC z γ π β η o od)) := by
  have h8 := H.n8
  have hcl := H.isC hi
  rcases hc with rfl | hc
  · have n1 : ¬ ((-1 : Int32) = α (7 + i) 1 ∨ freeC α n (-1)) := by
      rintro (w | w)
      · rw [← w] at hcl; exact absurd hcl.1 (by decide)
      · exact absurd w.1.1 (by decide)
    rw [bi_f n1]
    simp only [↓reduceIte, e184_0, e184_1, e184_2, e184_5, e184_6, e184_7, e184_8, e184_9, e184_12, e184_15, e184_16, e184_17, e184_20, e184_23, e184_24, e184_27, e184_28, aft_v, aft_n, Option.bind_some, rf_some, ck_i, ck_r, ck_n, nb0, nb1, nbi, Nat.reduceAdd, if_true, if_false, not_false_eq_true, not_true_eq_false]
  · have hm : ¬ c = -1 := fun q => by rw [q] at hc; exact absurd hc.1 (by decide)
    by_cases q : c = α (7 + i) 1
    · rw [bi_t (Or.inl q)]
      have hm' : ¬ α (7 + i) 1 = -1 := by rw [← q]; exact hm
      simp only [↓reduceIte, e184_0, e184_1, e184_2, e184_5, e184_6, e184_7, e184_8, e184_9, e184_12, e184_15, e184_16, e184_17, e184_20, e184_23, e184_24, e184_27, e184_28, isO70, s125_1 R h8 hi, q, hm', aft_v, aft_n, Option.bind_some, rf_some, ck_i, ck_r, ck_n, nb0, nb1, nbi, Nat.reduceAdd, if_true, if_false, not_false_eq_true, not_true_eq_false]
    · by_cases q2 : freeC α n c
      · rw [bi_t (Or.inr q2)]
        simp only [↓reduceIte, e184_0, e184_1, e184_2, e184_5, e184_6, e184_7, e184_8, e184_9, e184_12, e184_15, e184_16, e184_17, e184_20, e184_23, e184_24, e184_27, e184_28, isO70, s125_1 R h8 hi, q, hm, s133 H R (Or.inr hc), bi_t q2, i1_0, aft_v, aft_n, Option.bind_some, rf_some, ck_i, ck_r, ck_n, nb0, nb1, nbi, Nat.reduceAdd, if_true, if_false, not_false_eq_true, not_true_eq_false]
      · rw [bi_f (fun w => w.elim q q2)]
        simp only [↓reduceIte, e184_0, e184_1, e184_2, e184_5, e184_6, e184_7, e184_8, e184_9, e184_12, e184_15, e184_16, e184_17, e184_20, e184_23, e184_24, e184_27, e184_28, isO70, s125_1 R h8 hi, q, hm, s133 H R (Or.inr hc), bi_f q2, aft_v, aft_n, Option.bind_some, rf_some, ck_i, ck_r, ck_n, nb0, nb1, nbi, Nat.reduceAdd, if_true, if_false, not_false_eq_true, not_true_eq_false]
theorem s185 {pt : Nat → Int32} {v : Int32} (hv : 0 ≤ v.toInt) (G : Gd pt v) {t : Nat} (ht : t < 1728) : Run 185 0 [some (.ref (70)), some (.int (J t)), some (.int (v))] [] (HC z γ π (ML β pt) η o od) = some (.inl none, (HC z γ π (ML β (upt pt t v)) η o od)) := by
  have hr : gaI (HC z γ π (ML β pt) η o od) 74 (J t) = some (pt t) := by rw [gaI41 kd_74 (in74 ht), J_tn (by omega), ML_at _ _ ht]
  have hw : ∀ x, paI (HC z γ π (ML β pt) η o od) 74 (J t) x = some (HC z γ π (ML β (upd pt t x)) η o od) := fun x => by rw [paI41 kd_74 (in74 ht), J_tn (by omega), ML_up _ _ ht]
  unfold upt
  by_cases q : pt t = -1
  · rw [if_pos q]
    have l : (v ≤ -1) = False := eq_false (by rw [i32_le, tim1]; omega)
    simp only [↓reduceIte, e185_0, e185_1, e185_4, e185_5, e185_6, e185_7, e185_10, e185_11, e185_12, e185_15, e185_16, e185_19, e185_20, e185_23, e185_24, e185_25, e185_26, gf9_6 kd_70, hr, hw, q, l, aft_v, aft_n, Option.bind_some, rf_some, ck_i, ck_r, ck_n, nb0, nb1, nbi, Nat.reduceAdd, if_true, if_false, not_false_eq_true, not_true_eq_false]
  · rw [if_neg q]
    have l : (v ≤ pt t) = True := eq_true (by rw [i32_le]; exact (G t ht).resolve_left q)
    have es : upd pt t (pt t) = pt := by
      funext j
      unfold upd
      split
      · next w => rw [w]
      · rfl
    simp only [↓reduceIte, e185_0, e185_1, e185_4, e185_5, e185_6, e185_7, e185_10, e185_11, e185_12, e185_15, e185_16, e185_19, e185_20, e185_23, e185_24, e185_25, e185_26, gf9_6 kd_70, hr, hw, l, es, aft_v, aft_n, Option.bind_some, rf_some, ck_i, ck_r, ck_n, nb0, nb1, nbi, Nat.reduceAdd, if_true, if_false, not_false_eq_true, not_true_eq_false]
theorem s186_a (H : Ok α n) (R : Rm (β 71) α n) {i : Nat} (hi : i < n) {pt : Nat → Int32} {p : Nat} (hp : p < 1000) (G : Gd pt (J p)) {s : Nat} (hs : s < 1728) (hc : isCellC α 4 (J (s / 12))) : Run 186 0 [some (.ref (70)), some (.int (J i)), some (.int (J s)), some (.int (J (p + 1))), none, none, none, none, none] [] (HC z γ π (ML β pt) η o od) = Run 186 68 [some (.ref (70)), some (.int (J i)), some (.int (J s)), some (.int (J (p + 1))), some (.int (J (s / 12))), some (.int (J (s % 12 / 2))), some (.int (nbC α (J (s / 12)) (s % 12 / 2))), some (.int (0)), none] [] (HC z γ π (ML β (uo pt (J p) (aE α n i s))) η o od) := by
  have hh : s % 12 / 2 < 6 := by omega
  have R' := Rm_ML R pt
  have q12 : ¬ (12 : Int32) = 0 := by decide
  have eh : s / 2 % 6 = s % 12 / 2 := by omega
  have e130 := s130 (z := z) (γ := γ) (π := π) (η := η) (o := o) (od := od) H R' (c := J (s / 12)) hh
  have e143 : Run 143 0 [some (.int (J (s % 12 / 2))), some (.int (α 4 2)), none] [] (HC z γ π (ML β pt) η o od) = some (.inl (some (.int (J (angN (s % 12 / 2) (wdN α))))), (HC z γ π (ML β pt) η o od)) := by rw [H.wdJ.2]; exact s143 hh H.wdJ.1
  have a3 := angJ3 hh H.wdJ.1
  have e184 := s184 (z := z) (γ := γ) (π := π) (η := η) (o := o) (od := od) H R' hi (nb_cell H (J (s / 12)) (s % 12 / 2))
  have vp : 0 ≤ (J p : Int32).toInt := by rw [J_ti (by omega)]; omega
  unfold aE
  by_cases q1 : angN (s % 12 / 2) (wdN α) = 3
  · rw [if_pos q1]
    show _ = Run 186 68 [some (.ref (70)), some (.int (J i)), some (.int (J s)), some (.int (J (p + 1))), some (.int (J (s / 12))), some (.int (J (s % 12 / 2))), some (.int (nbC α (J (s / 12)) (s % 12 / 2))), some (.int (0)), none] [] (HC z γ π (ML β pt) η o od)
    simp only [↓reduceIte, e186_0, e186_1, e186_3, e186_4, e186_6, e186_7, e186_8, e186_9, e186_11, e186_12, e186_14, e186_15, e186_17, e186_19, e186_22, e186_24, e186_26, e186_27, e186_30, e186_31, e186_32, e186_35, e186_36, e186_39, e186_40, e186_41, e186_43, e186_46, e186_49, e186_50, e186_51, e186_53, e186_55, e186_56, e186_59, e186_60, e186_61, e186_62, e186_65, e186_66, e186_70, e186_71, e186_74, e186_76, e186_78, e186_79, e186_82, e186_83, e186_86, e186_87, e186_90, e186_92, e186_94, e186_95, e186_98, e186_99, e186_100, e186_103, e186_104, e186_107, e186_108, e186_109, e186_110, e186_111, e186_114, e186_115, e186_116, e186_118, e186_120, e186_121, e186_124, e186_125, e186_126, e186_127, e186_130, e186_133, e186_136, isO70, gf9_0 kd_70, J_div12 (show s < 2147483648 by omega), J_div2 (show s < 2147483648 by omega), J_div6 (show s / 2 < 2147483648 by omega), J_mod6 (show s / 2 < 2147483648 by omega), eh, q12, q2', q6, e130, m71_2 R', e143, eq_true (a3.mpr q1), aft_v, aft_n, Option.bind_some, rf_some, ck_i, ck_r, ck_n, nb0, nb1, nbi, Nat.reduceAdd, if_true, if_false, not_false_eq_true, not_true_eq_false]
  · rw [if_neg q1]
    have a3' : ((3 : Int32) ≤ J (angN (s % 12 / 2) (wdN α))) = False := by rw [a3]; exact eq_false q1
    by_cases q2 : nbC α (J (s / 12)) (s % 12 / 2) = α (7 + i) 1 ∨ freeC α n (nbC α (J (s / 12)) (s % 12 / 2))
    · rw [if_pos q2]
      rw [bi_t q2] at e184
      have hcell : isCellC α 4 (nbC α (J (s / 12)) (s % 12 / 2)) := by
        rcases q2 with w | w
        · rw [w]; exact H.isC hi
        · exact w.1
      obtain ⟨x, hx, ex⟩ := cell_J H hcell
      rw [ex] at e130 e184 ⊢
      rw [J_tn (by omega)]
      have e183 : Run 183 0 [some (.ref (70)), some (.int (J x)), some (.int (J (s % 12 / 2))), some (.int (1))] [] (HC z γ π (ML β pt) η o od) = _ := s183 x (s % 12 / 2) 1
      have e185 := s185 (z := z) (β := β) (γ := γ) (π := π) (η := η) (o := o) (od := od) vp G (show 12 * x + (2 * (s % 12 / 2) + 1) < 1728 by omega)
      show _ = Run 186 68 [some (.ref (70)), some (.int (J i)), some (.int (J s)), some (.int (J (p + 1))), some (.int (J (s / 12))), some (.int (J (s % 12 / 2))), some (.int (J x)), some (.int (0)), none] [] (HC z γ π (ML β (upt pt (12 * x + (2 * (s % 12 / 2) + 1)) (J p))) η o od)
      simp only [↓reduceIte, e186_0, e186_1, e186_3, e186_4, e186_6, e186_7, e186_8, e186_9, e186_11, e186_12, e186_14, e186_15, e186_17, e186_19, e186_22, e186_24, e186_26, e186_27, e186_30, e186_31, e186_32, e186_35, e186_36, e186_39, e186_40, e186_41, e186_43, e186_46, e186_49, e186_50, e186_51, e186_53, e186_55, e186_56, e186_59, e186_60, e186_61, e186_62, e186_65, e186_66, e186_70, e186_71, e186_74, e186_76, e186_78, e186_79, e186_82, e186_83, e186_86, e186_87, e186_90, e186_92, e186_94, e186_95, e186_98, e186_99, e186_100, e186_103, e186_104, e186_107, e186_108, e186_109, e186_110, e186_111, e186_114, e186_115, e186_116, e186_118, e186_120, e186_121, e186_124, e186_125, e186_126, e186_127, e186_130, e186_133, e186_136, isO70, gf9_0 kd_70, J_div12 (show s < 2147483648 by omega), J_div2 (show s < 2147483648 by omega), J_div6 (show s / 2 < 2147483648 by omega), J_mod6 (show s / 2 < 2147483648 by omega), eh, q12, q2', q6, e130, m71_2 R', e143, a3', e184, i1_0, e183, J_pred, e185, aft_v, aft_n, Option.bind_some, rf_some, ck_i, ck_r, ck_n, nb0, nb1, nbi, Nat.reduceAdd, if_true, if_false, not_false_eq_true, not_true_eq_false]
    · rw [if_neg q2]
      rw [bi_f q2] at e184
      show _ = Run 186 68 [some (.ref (70)), some (.int (J i)), some (.int (J s)), some (.int (J (p + 1))), some (.int (J (s / 12))), some (.int (J (s % 12 / 2))), some (.int (nbC α (J (s / 12)) (s % 12 / 2))), some (.int (0)), none] [] (HC z γ π (ML β pt) η o od)
      simp only [↓reduceIte, e186_0, e186_1, e186_3, e186_4, e186_6, e186_7, e186_8, e186_9, e186_11, e186_12, e186_14, e186_15, e186_17, e186_19, e186_22, e186_24, e186_26, e186_27, e186_30, e186_31, e186_32, e186_35, e186_36, e186_39, e186_40, e186_41, e186_43, e186_46, e186_49, e186_50, e186_51, e186_53, e186_55, e186_56, e186_59, e186_60, e186_61, e186_62, e186_65, e186_66, e186_70, e186_71, e186_74, e186_76, e186_78, e186_79, e186_82, e186_83, e186_86, e186_87, e186_90, e186_92, e186_94, e186_95, e186_98, e186_99, e186_100, e186_103, e186_104, e186_107, e186_108, e186_109, e186_110, e186_111, e186_114, e186_115, e186_116, e186_118, e186_120, e186_121, e186_124, e186_125, e186_126, e186_127, e186_130, e186_133, e186_136, isO70, gf9_0 kd_70, J_div12 (show s < 2147483648 by omega), J_div2 (show s < 2147483648 by omega), J_div6 (show s / 2 < 2147483648 by omega), J_mod6 (show s / 2 < 2147483648 by omega), eh, q12, q2', q6, e130, m71_2 R', e143, a3', e184, aft_v, aft_n, Option.bind_some, rf_some, ck_i, ck_r, ck_n, nb0, nb1, nbi, Nat.reduceAdd, if_true, if_false, not_false_eq_true, not_true_eq_false]
theorem s186_t (H : Ok α n) (R : Rm (β 71) α n) {i : Nat} {pt : Nat → Int32} {p : Nat} (hp : p < 1000) (G : Gd pt (J p)) {s : Nat} (hs : s < 1728) {side : Int32} (hsd : side = 0 ∨ side = 1) (nb : Int32) (u : Option Value) : Run 186 68 [some (.ref (70)), some (.int (J i)), some (.int (J s)), some (.int (J (p + 1))), some (.int (J (s / 12))), some (.int (J (s % 12 / 2))), some (.int (nb)), some (.int (side)), u] [] (HC z γ π (ML β pt) η o od) = Run 186 68 [some (.ref (70)), some (.int (J i)), some (.int (J s)), some (.int (J (p + 1))), some (.int (J (s / 12))), some (.int (J (s % 12 / 2))), some (.int (nb)), some (.int (side + 1)), some (.int (J (hdN (s % 12 / 2) side)))] [] (HC z γ π (ML β (uo pt (J p) (tE α s (hdN (s % 12 / 2) side)))) η o od) := by
  have hh : s % 12 / 2 < 6 := by omega
  have R' := Rm_ML R pt
  have hl := hdN_lt (s % 12 / 2) side
  have hw : s % 2 = 0 ∨ s % 2 = 1 := by omega
  have e162 : Run 162 0 [some (.int (J (s % 12 / 2))), some (.int (side))] [] (HC z γ π (ML β pt) η o od) = _ := s162 hh hsd
  have e143 : Run 143 0 [some (.int (J (hdN (s % 12 / 2) side))), some (.int (α 4 2)), none] [] (HC z γ π (ML β pt) η o od) = some (.inl (some (.int (J (angN (hdN (s % 12 / 2) side) (wdN α))))), (HC z γ π (ML β pt) η o od)) := by rw [H.wdJ.2]; exact s143 hl H.wdJ.1
  have a3 : (J (angN (hdN (s % 12 / 2) side) (wdN α)) < 3) = ¬ angN (hdN (s % 12 / 2) side) (wdN α) = 3 := by
    have := angJ3 hl H.wdJ.1
    rw [← nle, this]
  have vp : 0 ≤ (J p : Int32).toInt := by rw [J_ti (by omega)]; omega
  have e183 : Run 183 0 [some (.ref (70)), some (.int (J (s / 12))), some (.int (J (hdN (s % 12 / 2) side))), some (.int (0))] [] (HC z γ π (ML β pt) η o od) = _ := s183 (s / 12) (hdN (s % 12 / 2) side) 0
  have e185 := s185 (z := z) (β := β) (γ := γ) (π := π) (η := η) (o := o) (od := od) vp G (show 12 * (s / 12) + (2 * hdN (s % 12 / 2) side + 0) < 1728 by omega)
  have sl2 : ((2 : Int32) ≤ side) = False := by rcases hsd with rfl | rfl <;> exact eq_false (by decide)
  rw [e186_68]
  unfold tE
  by_cases q1 : angN (hdN (s % 12 / 2) side) (wdN α) = 3
  · have a3' : (J (angN (hdN (s % 12 / 2) side) (wdN α)) < 3) = False := by rw [a3]; exact eq_false (fun w => w q1)
    rcases hw with w | w
    · rw [if_neg (fun x => x.elim (fun y => by omega) (fun y => y q1))]
      show _ = Run 186 68 [some (.ref (70)), some (.int (J i)), some (.int (J s)), some (.int (J (p + 1))), some (.int (J (s / 12))), some (.int (J (s % 12 / 2))), some (.int (nb)), some (.int (side + 1)), some (.int (J (hdN (s % 12 / 2) side)))] [] (HC z γ π (ML β pt) η o od)
      rcases hsd with rfl | rfl <;> simp only [↓reduceIte, e186_0, e186_1, e186_3, e186_4, e186_6, e186_7, e186_8, e186_9, e186_11, e186_12, e186_14, e186_15, e186_17, e186_19, e186_22, e186_24, e186_26, e186_27, e186_30, e186_31, e186_32, e186_35, e186_36, e186_39, e186_40, e186_41, e186_43, e186_46, e186_49, e186_50, e186_51, e186_53, e186_55, e186_56, e186_59, e186_60, e186_61, e186_62, e186_65, e186_66, e186_70, e186_71, e186_74, e186_76, e186_78, e186_79, e186_82, e186_83, e186_86, e186_87, e186_90, e186_92, e186_94, e186_95, e186_98, e186_99, e186_100, e186_103, e186_104, e186_107, e186_108, e186_109, e186_110, e186_111, e186_114, e186_115, e186_116, e186_118, e186_120, e186_121, e186_124, e186_125, e186_126, e186_127, e186_130, e186_133, e186_136, isO70, gf9_0 kd_70, sl2, e162, m71_2 R', e143, a3', J_div2 (show s < 2147483648 by omega), J_mod2 (show s < 2147483648 by omega), q2', w, show J 0 = (0 : Int32) from rfl, ln0_1, aft_v, aft_n, Option.bind_some, rf_some, ck_i, ck_r, ck_n, nb0, nb1, nbi, Nat.reduceAdd, if_true, if_false, not_false_eq_true, not_true_eq_false]
    · rw [if_pos (Or.inl w)]
      show _ = Run 186 68 [some (.ref (70)), some (.int (J i)), some (.int (J s)), some (.int (J (p + 1))), some (.int (J (s / 12))), some (.int (J (s % 12 / 2))), some (.int (nb)), some (.int (side + 1)), some (.int (J (hdN (s % 12 / 2) side)))] [] (HC z γ π (ML β (upt pt (12 * (s / 12) + (2 * hdN (s % 12 / 2) side + 0)) (J p))) η o od)
      rcases hsd with rfl | rfl <;> simp only [↓reduceIte, e186_0, e186_1, e186_3, e186_4, e186_6, e186_7, e186_8, e186_9, e186_11, e186_12, e186_14, e186_15, e186_17, e186_19, e186_22, e186_24, e186_26, e186_27, e186_30, e186_31, e186_32, e186_35, e186_36, e186_39, e186_40, e186_41, e186_43, e186_46, e186_49, e186_50, e186_51, e186_53, e186_55, e186_56, e186_59, e186_60, e186_61, e186_62, e186_65, e186_66, e186_70, e186_71, e186_74, e186_76, e186_78, e186_79, e186_82, e186_83, e186_86, e186_87, e186_90, e186_92, e186_94, e186_95, e186_98, e186_99, e186_100, e186_103, e186_104, e186_107, e186_108, e186_109, e186_110, e186_111, e186_114, e186_115, e186_116, e186_118, e186_120, e186_121, e186_124, e186_125, e186_126, e186_127, e186_130, e186_133, e186_136, isO70, gf9_0 kd_70, sl2, e162, m71_2 R', e143, a3', J_div2 (show s < 2147483648 by omega), J_mod2 (show s < 2147483648 by omega), q2', w, show J 1 = (1 : Int32) from rfl, ln0_1, e183, J_pred, e185, aft_v, aft_n, Option.bind_some, rf_some, ck_i, ck_r, ck_n, nb0, nb1, nbi, Nat.reduceAdd, if_true, if_false, not_false_eq_true, not_true_eq_false]
  · have a3' : (J (angN (hdN (s % 12 / 2) side) (wdN α)) < 3) = True := by rw [a3]; exact eq_true q1
    rw [if_pos (Or.inr q1)]
    show _ = Run 186 68 [some (.ref (70)), some (.int (J i)), some (.int (J s)), some (.int (J (p + 1))), some (.int (J (s / 12))), some (.int (J (s % 12 / 2))), some (.int (nb)), some (.int (side + 1)), some (.int (J (hdN (s % 12 / 2) side)))] [] (HC z γ π (ML β (upt pt (12 * (s / 12) + (2 * hdN (s % 12 / 2) side + 0)) (J p))) η o od)
    rcases hsd with rfl | rfl <;> simp only [↓reduceIte, e186_0, e186_1, e186_3, e186_4, e186_6, e186_7, e186_8, e186_9, e186_11, e186_12, e186_14, e186_15, e186_17, e186_19, e186_22, e186_24, e186_26, e186_27, e186_30, e186_31, e186_32, e186_35, e186_36, e186_39, e186_40, e186_41, e186_43, e186_46, e186_49, e186_50, e186_51, e186_53, e186_55, e186_56, e186_59, e186_60, e186_61, e186_62, e186_65, e186_66, e186_70, e186_71, e186_74, e186_76, e186_78, e186_79, e186_82, e186_83, e186_86, e186_87, e186_90, e186_92, e186_94, e186_95, e186_98, e186_99, e186_100, e186_103, e186_104, e186_107, e186_108, e186_109, e186_110, e186_111, e186_114, e186_115, e186_116, e186_118, e186_120, e186_121, e186_124, e186_125, e186_126, e186_127, e186_130, e186_133, e186_136, isO70, gf9_0 kd_70, sl2, e162, m71_2 R', e143, a3', ln0_1, e183, J_pred, e185, aft_v, aft_n, Option.bind_some, rf_some, ck_i, ck_r, ck_n, nb0, nb1, nbi, Nat.reduceAdd, if_true, if_false, not_false_eq_true, not_true_eq_false]
theorem s186 (H : Ok α n) (R : Rm (β 71) α n) {i : Nat} (hi : i < n) {pt : Nat → Int32} {p : Nat} (hp : p < 1000) (G : Gd pt (J p)) {s : Nat} (hs : s < 1728) (hc : isCellC α 4 (J (s / 12))) : Run 186 0 [some (.ref (70)), some (.int (J i)), some (.int (J s)), some (.int (J (p + 1))), none, none, none, none, none] [] (HC z γ π (ML β pt) η o od) = some (.inl none, (HC z γ π (ML β (spr pt (J p) (aE α n i s) (tE α s ((s % 12 / 2 + 1) % 6)) (tE α s ((s % 12 / 2 + 5) % 6)))) η o od)) := by
  have hm : ¬ J p = -1 := Jm1 (by omega)
  rw [spr_cm hm, s186_a H R hi hp G hs hc, s186_t H R hp (Gd_uo G _) hs (Or.inl rfl), show (0 : Int32) + 1 = 1 by decide, s186_t H R hp (Gd_uo (Gd_uo G _) _) hs (Or.inr rfl)]
  have e0 : hdN (s % 12 / 2) 0 = (s % 12 / 2 + 5) % 6 := by unfold hdN; rw [if_pos rfl]
  have e1 : hdN (s % 12 / 2) 1 = (s % 12 / 2 + 1) % 6 := by unfold hdN; rw [if_neg i1_0]
  rw [e0, e1]
  have l2 : ((2 : Int32) ≤ 1 + 1) = True := eq_true (by decide)
  simp only [↓reduceIte, e186_0, e186_1, e186_3, e186_4, e186_6, e186_7, e186_8, e186_9, e186_11, e186_12, e186_14, e186_15, e186_17, e186_19, e186_22, e186_24, e186_26, e186_27, e186_30, e186_31, e186_32, e186_35, e186_36, e186_39, e186_40, e186_41, e186_43, e186_46, e186_49, e186_50, e186_51, e186_53, e186_55, e186_56, e186_59, e186_60, e186_61, e186_62, e186_65, e186_66, e186_68, e186_70, e186_71, e186_74, e186_76, e186_78, e186_79, e186_82, e186_83, e186_86, e186_87, e186_90, e186_92, e186_94, e186_95, e186_98, e186_99, e186_100, e186_103, e186_104, e186_107, e186_108, e186_109, e186_110, e186_111, e186_114, e186_115, e186_116, e186_118, e186_120, e186_121, e186_124, e186_125, e186_126, e186_127, e186_130, e186_133, e186_136, l2, aft_v, aft_n, Option.bind_some, rf_some, ck_i, ck_r, ck_n, nb0, nb1, nbi, Nat.reduceAdd, if_true, if_false, not_false_eq_true, not_true_eq_false]
  rfl
end S69
