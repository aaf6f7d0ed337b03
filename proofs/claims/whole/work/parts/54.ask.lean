/-! one call of the law: what is to be shown; the questions -/
/-- a call goes on: both answer alike, and the invariant holds behind it -/
def Res (R1 R2 : Hp → Option Ot) (z : Zr) (α : Mem) (π : Nat → Nat) (β : Mem) (η : Int64) (o : Nat → Int64) (od : Nat → UInt64) : Prop :=
  ∃ (kk b : Int32) (z' : Zr) (α' : Mem) (π' : Nat → Nat) (β' : Mem) (o' : Nat → Int64) (n l k : Nat), R1 (HC z α π β η o od) = some (.inl (some (.int kk)), HC z' α' π' β η o' od) ∧ R2 (HC z' α' π' β η o' od) = some (.inl (some (.int b)), HC z' α' π' β' η o' od) ∧ β' 70 5 = kk ∧ (kk = 0 → o' 0 = b.toInt64) ∧ Inv α' π' β' n l k ∧ (z' = z ∨ z' = zb z)
theorem Rm_cd {β α : Mem} {n : Nat} (R : Rm (β 71) α n) (k : Nat) (v : Int32) : Rm (up2 β 70 k v 71) α n := by rw [up2_ne _ (by decide)]; exact R
theorem Inv_code {α β : Mem} {π : Nat → Nat} {n l k : Nat} (I : Inv α π β n l k) (v : Int32) : Inv α π (up2 β 70 5 v) n l k := Inv_up I (Fs_r α) I.1 I.2.1 (Rm_cd I.2.2.1 5 v) (Mq_70 β (by decide) (by decide) v)
theorem Res_thr {R1 R2 : Hp → Option Ot} {z : Zr} {α β : Mem} {π : Nat → Nat} {η : Int64} {o : Nat → Int64} {od : Nat → UInt64} {n l k : Nat} {kk b : Int32} (hk : ¬ kk = 0) (h1 : R1 (HC z α π β η o od) = some (.inl (some (.int kk)), HC (zb z) α π β η o od)) (h2 : R2 (HC (zb z) α π β η o od) = some (.inl (some (.int b)), HC (zb z) α π (up2 β 70 5 kk) η o od)) (I : Inv α π β n l k) : Res R1 R2 z α π β η o od :=
  ⟨kk, b, zb z, α, π, up2 β 70 5 kk, o, n, l, k, h1, h2, up2_rr .., fun q => absurd q hk, Inv_code I kk, Or.inr rfl⟩
theorem Res_q {R1 R2 : Hp → Option Ot} {z : Zr} {α β : Mem} {π : Nat → Nat} {η : Int64} {o : Nat → Int64} {od : Nat → UInt64} {n l k : Nat} {v : Int32} (h1 : R1 (HC z α π β η o od) = some (.inl (some (.int 0)), HC z α π β η (vp_updL o 0 v.toInt64) od)) (h2 : R2 (HC z α π β η (vp_updL o 0 v.toInt64) od) = some (.inl (some (.int v)), HC z α π (up2 β 70 5 0) η (vp_updL o 0 v.toInt64) od)) (I : Inv α π β n l k) : Res R1 R2 z α π β η o od :=
  ⟨0, v, z, α, π, up2 β 70 5 0, _, n, l, k, h1, h2, up2_rr .., fun _ => rfl, Inv_code I 0, Or.inl rfl⟩
theorem Res_m {R1 R2 : Hp → Option Ot} {z : Zr} {α α' β β' : Mem} {π π' : Nat → Nat} {η : Int64} {o : Nat → Int64} {od : Nat → UInt64} {n l k : Nat} {v : Int32} (h1 : R1 (HC z α π β η o od) = some (.inl (some (.int 0)), HC z α' π' β η (vp_updL o 0 v.toInt64) od)) (h2 : R2 (HC z α' π' β η (vp_updL o 0 v.toInt64) od) = some (.inl (some (.int v)), HC z α' π' β' η (vp_updL o 0 v.toInt64) od)) (hc : β' 70 5 = 0) (I : Inv α' π' β' n l k) : Res R1 R2 z α π β η o od :=
  ⟨0, v, z, α', π', β', _, n, l, k, h1, h2, hc, fun _ => rfl, I, Or.inl rfl⟩
theorem in_J {w : Int32} {m : Nat} (hm : m < 1000) (h : ¬ w < 0 ∧ ¬ J m < w) : ∃ j, j < m + 1 ∧ w = J j := by
  have h1 := h.1; have h2 := h.2
  rw [i32_lt, ti0] at h1; rw [i32_lt, J_ti (by omega)] at h2
  exact J_rng (by omega) (by omega)
section S54
variable {z : Zr} {α β γ : Mem} {π : Nat → Nat} {η : Int64} {o : Nat → Int64} {od : Nat → UInt64} {n l k : Nat}
theorem isO62' : isO (HC z α π β η o od) 62 2 = true := isO62
theorem mh88 : mHh 88 = [] := rfl
theorem mh89 : mHh 89 = [] := rfl
theorem mh90 : mHh 90 = [] := rfl
theorem mh91 : mHh 91 = [] := rfl
theorem s87 (H : Ok α n) {m : Nat} (hm : m < 10) : Run 87 0 [some (.ref (3)), some (.int (J m))] [] (HC z α π β η o od) = some (.inl (some (.int (valC α n m))), (HC z α π β η o od)) := by
  simp only [↓reduceIte, e87_0, e87_1, e87_4, e87_5, e87_7, e87_10, e87_20, e87_21, e87_24, e87_25, e87_28, gf8_0 kd3, isO4, J0, (show (9 : Int32) = J 9 from rfl), J_lt (show m < 2147483648 by omega) (show 0 < 2147483648 by omega), J_le (show m < 2147483648 by omega) (show 9 < 2147483648 by omega), show ¬ m < 0 by omega, show m ≤ 9 by omega, s68 H hm, aft_v, aft_n, Option.bind_some, rf_some, ck_i, ck_r, ck_n, nb0, nb1, nbi, Nat.reduceAdd, if_true, if_false, not_false_eq_true, not_true_eq_false]
theorem s87n {w : Int32} (h : ¬ (¬ w < 0 ∧ ¬ 9 < w)) : Run 87 0 [some (.ref (3)), some (.int (w))] [] (HC z α π β η o od) = some (.inr "java/lang/IllegalArgumentException", HC (zb z) α π β η o od) := by
  by_cases q : w < 0
  · simp only [↓reduceIte, e87_0, e87_1, e87_4, e87_5, e87_7, e87_10, e87_20, e87_21, e87_24, e87_25, e87_28, q, hb_HC, aft_v, aft_n, Option.bind_some, rf_some, ck_i, ck_r, ck_n, nb0, nb1, nbi, Nat.reduceAdd, if_true, if_false, not_false_eq_true, not_true_eq_false]
  · have q2 : 9 < w := by by_cases x : 9 < w; exact x; exact absurd ⟨q, x⟩ h
    simp only [↓reduceIte, e87_0, e87_1, e87_4, e87_5, e87_7, e87_10, e87_20, e87_21, e87_24, e87_25, e87_28, q, q2, le_not, hb_HC, aft_v, aft_n, Option.bind_some, rf_some, ck_i, ck_r, ck_n, nb0, nb1, nbi, Nat.reduceAdd, if_true, if_false, not_false_eq_true, not_true_eq_false]
theorem s88 (H : Ok α n) {i : Nat} (hi : i < n) {m : Nat} (hm : m < 15) : Run 88 0 [some (.ref (3)), some (.int (J i)), some (.int (J m))] [] (HC z α π β η o od) = some (.inl (some (.int (shpC α (7 + i) (hdA α (7 + i)) (wdN α) m))), (HC z α π β η o od)) := by
  have h8 := H.n8
  have hd := H.hdJ hi
  have hw := H.wdJ
  simp only [↓reduceIte, e88_0, e88_1, e88_2, e88_5, e88_6, e88_9, e88_10, e88_12, e88_15, e88_25, e88_26, e88_29, e88_30, e88_33, e88_36, e88_37, e88_38, e88_39, e88_42, isO3, s111 _ (isShip_J H.hn h8 hi), gf8_0 kd3, gf6_7 kd4, gaR21 kd6 (inB_J (show i < 8 by omega) (by omega)), J_tn (show i < 2147483648 by omega), isO4, J0, (show (14 : Int32) = J 14 from rfl), J_lt (show m < 2147483648 by omega) (show 0 < 2147483648 by omega), J_le (show m < 2147483648 by omega) (show 14 < 2147483648 by omega), show ¬ m < 0 by omega, show m ≤ 14 by omega, s69 (kd_ship (show i < 8 by omega)) hd.1 hw.1 hd.2 hw.2 (H.bo i hi) hm, aft_v, aft_n, Option.bind_some, rf_some, ck_i, ck_r, ck_n, nb0, nb1, nbi, Nat.reduceAdd, if_true, if_false, not_false_eq_true, not_true_eq_false]
theorem s88n {c w : Int32} (h : ¬ isShipC α 4 c) : Run 88 0 [some (.ref (3)), some (.int (c)), some (.int (w))] [] (HC z α π β η o od) = some (.inr "java/lang/IndexOutOfBoundsException", HC (zb z) α π β η o od) := by
  simp only [↓reduceIte, e88_0, e88_1, e88_2, e88_5, e88_6, e88_9, e88_10, e88_12, e88_15, e88_25, e88_26, e88_29, e88_30, e88_33, e88_36, e88_37, e88_38, e88_39, e88_42, isO3, s111n _ h, aft_x mh88, aft_v, aft_n, Option.bind_some, rf_some, ck_i, ck_r, ck_n, nb0, nb1, nbi, Nat.reduceAdd, if_true, if_false, not_false_eq_true, not_true_eq_false]
theorem s88m {c w : Int32} (h : isShipC α 4 c) (h2 : ¬ (¬ w < 0 ∧ ¬ 14 < w)) : Run 88 0 [some (.ref (3)), some (.int (c)), some (.int (w))] [] (HC z α π β η o od) = some (.inr "java/lang/IllegalArgumentException", HC (zb z) α π β η o od) := by
  by_cases q : w < 0
  · simp only [↓reduceIte, e88_0, e88_1, e88_2, e88_5, e88_6, e88_9, e88_10, e88_12, e88_15, e88_25, e88_26, e88_29, e88_30, e88_33, e88_36, e88_37, e88_38, e88_39, e88_42, isO3, s111 _ h, q, hb_HC, aft_v, aft_n, Option.bind_some, rf_some, ck_i, ck_r, ck_n, nb0, nb1, nbi, Nat.reduceAdd, if_true, if_false, not_false_eq_true, not_true_eq_false]
  · have q2 : 14 < w := by by_cases x : 14 < w; exact x; exact absurd ⟨q, x⟩ h2
    simp only [↓reduceIte, e88_0, e88_1, e88_2, e88_5, e88_6, e88_9, e88_10, e88_12, e88_15, e88_25, e88_26, e88_29, e88_30, e88_33, e88_36, e88_37, e88_38, e88_39, e88_42, isO3, s111 _ h, q, q2, le_not, hb_HC, aft_v, aft_n, Option.bind_some, rf_some, ck_i, ck_r, ck_n, nb0, nb1, nbi, Nat.reduceAdd, if_true, if_false, not_false_eq_true, not_true_eq_false]
theorem s89 (H : Ok α n) {c : Int32} (h : isCellC α 4 c) : Run 89 0 [some (.ref (3)), some (.int (c))] [] (HC z α π β η o od) = some (.inl (some (.int (thingC α n c))), (HC z α π β η o od)) := by
  simp only [↓reduceIte, e89_0, e89_1, e89_2, e89_5, e89_6, e89_9, e89_10, e89_13, isO3, s110 _ h, gf8_0 kd3, isO4, s52 H, aft_v, aft_n, Option.bind_some, rf_some, ck_i, ck_r, ck_n, nb0, nb1, nbi, Nat.reduceAdd, if_true, if_false, not_false_eq_true, not_true_eq_false]
theorem s89n {c : Int32} (h : ¬ isCellC α 4 c) : Run 89 0 [some (.ref (3)), some (.int (c))] [] (HC z α π β η o od) = some (.inr "java/lang/IndexOutOfBoundsException", HC (zb z) α π β η o od) := by
  simp only [↓reduceIte, e89_0, e89_1, e89_2, e89_5, e89_6, e89_9, e89_10, e89_13, isO3, s110n _ h, aft_x mh89, aft_v, aft_n, Option.bind_some, rf_some, ck_i, ck_r, ck_n, nb0, nb1, nbi, Nat.reduceAdd, if_true, if_false, not_false_eq_true, not_true_eq_false]
theorem s90 (H : Ok α n) {a b : Int32} (h : isCellC α 4 a ∧ isCellC α 4 b) : Run 90 0 [some (.ref (3)), some (.int (a)), some (.int (b))] [] (HC z α π β η o od) = some (.inl (some (.int (frC α a b))), (HC z α π β η o od)) := by
  simp only [↓reduceIte, e90_0, e90_1, e90_2, e90_5, e90_6, e90_7, e90_10, e90_11, e90_14, e90_15, e90_16, e90_19, isO3, s110 _ h.1, s110 _ h.2, gf8_0 kd3, isO4, t54 H, aft_v, aft_n, Option.bind_some, rf_some, ck_i, ck_r, ck_n, nb0, nb1, nbi, Nat.reduceAdd, if_true, if_false, not_false_eq_true, not_true_eq_false]
theorem s90n {a b : Int32} (h : ¬ (isCellC α 4 a ∧ isCellC α 4 b)) : Run 90 0 [some (.ref (3)), some (.int (a)), some (.int (b))] [] (HC z α π β η o od) = some (.inr "java/lang/IndexOutOfBoundsException", HC (zb z) α π β η o od) := by
  by_cases q : isCellC α 4 a
  · have q2 : ¬ isCellC α 4 b := fun w => h ⟨q, w⟩
    simp only [↓reduceIte, e90_0, e90_1, e90_2, e90_5, e90_6, e90_7, e90_10, e90_11, e90_14, e90_15, e90_16, e90_19, isO3, s110 _ q, s110n _ q2, aft_x mh90, aft_v, aft_n, Option.bind_some, rf_some, ck_i, ck_r, ck_n, nb0, nb1, nbi, Nat.reduceAdd, if_true, if_false, not_false_eq_true, not_true_eq_false]
  · simp only [↓reduceIte, e90_0, e90_1, e90_2, e90_5, e90_6, e90_7, e90_10, e90_11, e90_14, e90_15, e90_16, e90_19, isO3, s110n _ q, aft_x mh90, aft_v, aft_n, Option.bind_some, rf_some, ck_i, ck_r, ck_n, nb0, nb1, nbi, Nat.reduceAdd, if_true, if_false, not_false_eq_true, not_true_eq_false]
theorem s91 (H : Ok α n) {a b : Int32} (h : isCellC α 4 a ∧ isCellC α 4 b) : Run 91 0 [some (.ref (3)), some (.int (a)), some (.int (b))] [] (HC z α π β η o od) = some (.inl (some (.int (sgC α a b))), (HC z α π β η o od)) := by
  simp only [↓reduceIte, e91_0, e91_1, e91_2, e91_5, e91_6, e91_7, e91_10, e91_11, e91_14, e91_15, e91_16, e91_19, isO3, s110 _ h.1, s110 _ h.2, gf8_0 kd3, isO4, t55 H, aft_v, aft_n, Option.bind_some, rf_some, ck_i, ck_r, ck_n, nb0, nb1, nbi, Nat.reduceAdd, if_true, if_false, not_false_eq_true, not_true_eq_false]
theorem s91n {a b : Int32} (h : ¬ (isCellC α 4 a ∧ isCellC α 4 b)) : Run 91 0 [some (.ref (3)), some (.int (a)), some (.int (b))] [] (HC z α π β η o od) = some (.inr "java/lang/IndexOutOfBoundsException", HC (zb z) α π β η o od) := by
  by_cases q : isCellC α 4 a
  · have q2 : ¬ isCellC α 4 b := fun w => h ⟨q, w⟩
    simp only [↓reduceIte, e91_0, e91_1, e91_2, e91_5, e91_6, e91_7, e91_10, e91_11, e91_14, e91_15, e91_16, e91_19, isO3, s110 _ q, s110n _ q2, aft_x mh91, aft_v, aft_n, Option.bind_some, rf_some, ck_i, ck_r, ck_n, nb0, nb1, nbi, Nat.reduceAdd, if_true, if_false, not_false_eq_true, not_true_eq_false]
  · simp only [↓reduceIte, e91_0, e91_1, e91_2, e91_5, e91_6, e91_7, e91_10, e91_11, e91_14, e91_15, e91_16, e91_19, isO3, s110n _ q, aft_x mh91, aft_v, aft_n, Option.bind_some, rf_some, ck_i, ck_r, ck_n, nb0, nb1, nbi, Nat.reduceAdd, if_true, if_false, not_false_eq_true, not_true_eq_false]
end S54
section S54m
variable {z : Zr} {α β γ : Mem} {π : Nat → Nat} {η : Int64} {o : Nat → Int64} {od : Nat → UInt64} {n l k : Nat}
theorem s152 (H : Ok α n) (R : Rm (β 71) α n) {m : Nat} (hm : m < 10) : Run 152 0 [some (.ref (70)), some (.int (J m))] [] (HC z γ π β η o od) = some (.inl (some (.int (valC α n m))), (HC z γ π (up2 β 70 5 0) η o od)) := by
  have hi : ¬ J m < 0 ∧ ¬ 9 < J m := by
    rw [J0, show (9 : Int32) = J 9 from rfl, J_lt (by omega) (by omega), J_lt (by omega) (by omega)]; omega
  simp only [↓reduceIte, e152_0, e152_1, e152_2, e152_3, e152_5, e152_8, e152_11, e152_12, e152_15, e152_16, e152_19, e152_20, e152_23, e152_26, e152_27, e152_30, e152_31, e152_32, e152_35, s118, bi_t hi, i1_0, pf9_5 kd_70, gf9_5 kd_70, up2_rr, isO70, s151 H (Rm_cd R 5 0) hm, aft_v, aft_n, Option.bind_some, rf_some, ck_i, ck_r, ck_n, nb0, nb1, nbi, Nat.reduceAdd, if_true, if_false, not_false_eq_true, not_true_eq_false]
theorem s152n {w : Int32} (h : ¬ (¬ w < 0 ∧ ¬ 9 < w)) : Run 152 0 [some (.ref (70)), some (.int (w))] [] (HC z γ π β η o od) = some (.inl (some (.int (0))), (HC z γ π (up2 β 70 5 1) η o od)) := by
  simp only [↓reduceIte, e152_0, e152_1, e152_2, e152_3, e152_5, e152_8, e152_11, e152_12, e152_15, e152_16, e152_19, e152_20, e152_23, e152_26, e152_27, e152_30, e152_31, e152_32, e152_35, s118, bi_f h, i1_0, pf9_5 kd_70, gf9_5 kd_70, up2_rr, aft_v, aft_n, Option.bind_some, rf_some, ck_i, ck_r, ck_n, nb0, nb1, nbi, Nat.reduceAdd, if_true, if_false, not_false_eq_true, not_true_eq_false]
theorem s154 (H : Ok α n) (R : Rm (β 71) α n) {i : Nat} (hi : i < n) {m : Nat} (hm : m < 15) : Run 154 0 [some (.ref (70)), some (.int (J i)), some (.int (J m))] [] (HC z γ π β η o od) = some (.inl (some (.int (shpC α (7 + i) (hdA α (7 + i)) (wdN α) m))), (HC z γ π (up2 β 70 5 0) η o od)) := by
  have hj : ¬ J m < 0 ∧ ¬ 14 < J m := by
    rw [J0, show (14 : Int32) = J 14 from rfl, J_lt (by omega) (by omega), J_lt (by omega) (by omega)]; omega
  simp only [↓reduceIte, e154_0, e154_1, e154_2, e154_3, e154_6, e154_9, e154_10, e154_13, e154_14, e154_15, e154_17, e154_20, e154_23, e154_24, e154_27, e154_28, e154_31, e154_32, e154_35, e154_38, e154_39, e154_42, e154_43, e154_44, e154_45, e154_48, isO70, s124 H R, bi_t (isShip_J H.hn H.n8 hi), s118, bi_t hj, i1_0, pf9_5 kd_70, gf9_5 kd_70, up2_rr, s153 H (Rm_cd R 5 0) hi hm, aft_v, aft_n, Option.bind_some, rf_some, ck_i, ck_r, ck_n, nb0, nb1, nbi, Nat.reduceAdd, if_true, if_false, not_false_eq_true, not_true_eq_false]
theorem s154n (H : Ok α n) (R : Rm (β 71) α n) {c w : Int32} (h : ¬ isShipC α 4 c) : Run 154 0 [some (.ref (70)), some (.int (c)), some (.int (w))] [] (HC z γ π β η o od) = some (.inl (some (.int (0))), (HC z γ π (up2 β 70 5 1) η o od)) := by
  simp only [↓reduceIte, e154_0, e154_1, e154_2, e154_3, e154_6, e154_9, e154_10, e154_13, e154_14, e154_15, e154_17, e154_20, e154_23, e154_24, e154_27, e154_28, e154_31, e154_32, e154_35, e154_38, e154_39, e154_42, e154_43, e154_44, e154_45, e154_48, isO70, s124 H R, bi_f h, i1_0, pf9_5 kd_70, gf9_5 kd_70, up2_rr, aft_v, aft_n, Option.bind_some, rf_some, ck_i, ck_r, ck_n, nb0, nb1, nbi, Nat.reduceAdd, if_true, if_false, not_false_eq_true, not_true_eq_false]
theorem s154m (H : Ok α n) (R : Rm (β 71) α n) {c w : Int32} (h : isShipC α 4 c) (h2 : ¬ (¬ w < 0 ∧ ¬ 14 < w)) : Run 154 0 [some (.ref (70)), some (.int (c)), some (.int (w))] [] (HC z γ π β η o od) = some (.inl (some (.int (0))), (HC z γ π (up2 β 70 5 2) η o od)) := by
  simp only [↓reduceIte, e154_0, e154_1, e154_2, e154_3, e154_6, e154_9, e154_10, e154_13, e154_14, e154_15, e154_17, e154_20, e154_23, e154_24, e154_27, e154_28, e154_31, e154_32, e154_35, e154_38, e154_39, e154_42, e154_43, e154_44, e154_45, e154_48, isO70, s124 H R, bi_t h, s118, bi_f h2, i1_0, ln2_0, pf9_5 kd_70, gf9_5 kd_70, up2_rr, aft_v, aft_n, Option.bind_some, rf_some, ck_i, ck_r, ck_n, nb0, nb1, nbi, Nat.reduceAdd, if_true, if_false, not_false_eq_true, not_true_eq_false]
theorem s155 (H : Ok α n) (R : Rm (β 71) α n) {c : Int32} (h : isCellC α 4 c) : Run 155 0 [some (.ref (70)), some (.int (c))] [] (HC z γ π β η o od) = some (.inl (some (.int (thingC α n c))), (HC z γ π (up2 β 70 5 0) η o od)) := by
  simp only [↓reduceIte, e155_0, e155_1, e155_2, e155_3, e155_6, e155_9, e155_10, e155_13, e155_14, e155_17, e155_18, e155_21, e155_24, e155_25, e155_28, e155_29, e155_30, e155_33, isO70, s123 H R, bi_t h, i1_0, pf9_5 kd_70, gf9_5 kd_70, up2_rr, s132 H (Rm_cd R 5 0) h, aft_v, aft_n, Option.bind_some, rf_some, ck_i, ck_r, ck_n, nb0, nb1, nbi, Nat.reduceAdd, if_true, if_false, not_false_eq_true, not_true_eq_false]
theorem s155n (H : Ok α n) (R : Rm (β 71) α n) {c : Int32} (h : ¬ isCellC α 4 c) : Run 155 0 [some (.ref (70)), some (.int (c))] [] (HC z γ π β η o od) = some (.inl (some (.int (0))), (HC z γ π (up2 β 70 5 1) η o od)) := by
  simp only [↓reduceIte, e155_0, e155_1, e155_2, e155_3, e155_6, e155_9, e155_10, e155_13, e155_14, e155_17, e155_18, e155_21, e155_24, e155_25, e155_28, e155_29, e155_30, e155_33, isO70, s123 H R, bi_f h, i1_0, pf9_5 kd_70, gf9_5 kd_70, up2_rr, aft_v, aft_n, Option.bind_some, rf_some, ck_i, ck_r, ck_n, nb0, nb1, nbi, Nat.reduceAdd, if_true, if_false, not_false_eq_true, not_true_eq_false]
theorem s156 (H : Ok α n) (R : Rm (β 71) α n) {a b : Int32} (h : isCellC α 4 a ∧ isCellC α 4 b) : Run 156 0 [some (.ref (70)), some (.int (a)), some (.int (b))] [] (HC z γ π β η o od) = some (.inl (some (.int (frC α a b))), (HC z γ π (up2 β 70 5 0) η o od)) := by
  simp only [↓reduceIte, e156_0, e156_1, e156_2, e156_3, e156_6, e156_9, e156_10, e156_11, e156_14, e156_17, e156_18, e156_21, e156_22, e156_25, e156_26, e156_29, e156_32, e156_33, e156_36, e156_37, e156_38, e156_39, e156_42, isO70, s123 H R, bi_t h.1, bi_t h.2, i1_0, pf9_5 kd_70, gf9_5 kd_70, up2_rr, s136 H (Rm_cd R 5 0), aft_v, aft_n, Option.bind_some, rf_some, ck_i, ck_r, ck_n, nb0, nb1, nbi, Nat.reduceAdd, if_true, if_false, not_false_eq_true, not_true_eq_false]
theorem s156n (H : Ok α n) (R : Rm (β 71) α n) {a b : Int32} (h : ¬ (isCellC α 4 a ∧ isCellC α 4 b)) : Run 156 0 [some (.ref (70)), some (.int (a)), some (.int (b))] [] (HC z γ π β η o od) = some (.inl (some (.int (0))), (HC z γ π (up2 β 70 5 1) η o od)) := by
  by_cases q : isCellC α 4 a
  · have q2 : ¬ isCellC α 4 b := fun w => h ⟨q, w⟩
    simp only [↓reduceIte, e156_0, e156_1, e156_2, e156_3, e156_6, e156_9, e156_10, e156_11, e156_14, e156_17, e156_18, e156_21, e156_22, e156_25, e156_26, e156_29, e156_32, e156_33, e156_36, e156_37, e156_38, e156_39, e156_42, isO70, s123 H R, bi_t q, bi_f q2, i1_0, pf9_5 kd_70, gf9_5 kd_70, up2_rr, aft_v, aft_n, Option.bind_some, rf_some, ck_i, ck_r, ck_n, nb0, nb1, nbi, Nat.reduceAdd, if_true, if_false, not_false_eq_true, not_true_eq_false]
  · simp only [↓reduceIte, e156_0, e156_1, e156_2, e156_3, e156_6, e156_9, e156_10, e156_11, e156_14, e156_17, e156_18, e156_21, e156_22, e156_25, e156_26, e156_29, e156_32, e156_33, e156_36, e156_37, e156_38, e156_39, e156_42, isO70, s123 H R, bi_f q, i1_0, pf9_5 kd_70, gf9_5 kd_70, up2_rr, aft_v, aft_n, Option.bind_some, rf_some, ck_i, ck_r, ck_n, nb0, nb1, nbi, Nat.reduceAdd, if_true, if_false, not_false_eq_true, not_true_eq_false]
theorem s157 (H : Ok α n) (R : Rm (β 71) α n) {a b : Int32} (h : isCellC α 4 a ∧ isCellC α 4 b) : Run 157 0 [some (.ref (70)), some (.int (a)), some (.int (b))] [] (HC z γ π β η o od) = some (.inl (some (.int (sgC α a b))), (HC z γ π (up2 β 70 5 0) η o od)) := by
  simp only [↓reduceIte, e157_0, e157_1, e157_2, e157_3, e157_6, e157_9, e157_10, e157_11, e157_14, e157_17, e157_18, e157_21, e157_22, e157_25, e157_26, e157_29, e157_32, e157_33, e157_36, e157_37, e157_38, e157_39, e157_42, isO70, s123 H R, bi_t h.1, bi_t h.2, i1_0, pf9_5 kd_70, gf9_5 kd_70, up2_rr, s137 H (Rm_cd R 5 0) h.1 h.2, aft_v, aft_n, Option.bind_some, rf_some, ck_i, ck_r, ck_n, nb0, nb1, nbi, Nat.reduceAdd, if_true, if_false, not_false_eq_true, not_true_eq_false]
theorem s157n (H : Ok α n) (R : Rm (β 71) α n) {a b : Int32} (h : ¬ (isCellC α 4 a ∧ isCellC α 4 b)) : Run 157 0 [some (.ref (70)), some (.int (a)), some (.int (b))] [] (HC z γ π β η o od) = some (.inl (some (.int (0))), (HC z γ π (up2 β 70 5 1) η o od)) := by
  by_cases q : isCellC α 4 a
  · have q2 : ¬ isCellC α 4 b := fun w => h ⟨q, w⟩
    simp only [↓reduceIte, e157_0, e157_1, e157_2, e157_3, e157_6, e157_9, e157_10, e157_11, e157_14, e157_17, e157_18, e157_21, e157_22, e157_25, e157_26, e157_29, e157_32, e157_33, e157_36, e157_37, e157_38, e157_39, e157_42, isO70, s123 H R, bi_t q, bi_f q2, i1_0, pf9_5 kd_70, gf9_5 kd_70, up2_rr, aft_v, aft_n, Option.bind_some, rf_some, ck_i, ck_r, ck_n, nb0, nb1, nbi, Nat.reduceAdd, if_true, if_false, not_false_eq_true, not_true_eq_false]
  · simp only [↓reduceIte, e157_0, e157_1, e157_2, e157_3, e157_6, e157_9, e157_10, e157_11, e157_14, e157_17, e157_18, e157_21, e157_22, e157_25, e157_26, e157_29, e157_32, e157_33, e157_36, e157_37, e157_38, e157_39, e157_42, isO70, s123 H R, bi_f q, i1_0, pf9_5 kd_70, gf9_5 kd_70, up2_rr, aft_v, aft_n, Option.bind_some, rf_some, ck_i, ck_r, ck_n, nb0, nb1, nbi, Nat.reduceAdd, if_true, if_false, not_false_eq_true, not_true_eq_false]
end S54m
section S54o
variable {z : Zr} {α β γ : Mem} {π : Nat → Nat} {η : Int64} {o : Nat → Int64} {od : Nat → UInt64} {n l k : Nat}
theorem op_value (I : Inv α π β n l k) (w : Int32) : Res (fun hh => Run 217 0 [some (.ref (3)), some (.int (w)), some (.ref (75)), none] [] hh) (fun hh => Run 152 0 [some (.ref (70)), some (.int (w))] [] hh) z α π β η o od := by
  by_cases q : ¬ w < 0 ∧ ¬ 9 < w
  · obtain ⟨m, hm, rfl⟩ := in_J (m := 9) (by decide) q
    exact Res_q (w217_ok _ (s87 I.1 hm)) (s152 I.1 I.2.2.1 hm) I
  · exact Res_thr (kk := 1) (by decide) (w217_x1 _ (s87n q)) (s152n q) I
theorem op_ship (I : Inv α π β n l k) (c w : Int32) : Res (fun hh => Run 218 0 [some (.ref (3)), some (.int (c)), some (.int (w)), some (.ref (75)), none] [] hh) (fun hh => Run 154 0 [some (.ref (70)), some (.int (c)), some (.int (w))] [] hh) z α π β η o od := by
  by_cases p : isShipC α 4 c
  · by_cases q : ¬ w < 0 ∧ ¬ 14 < w
    · obtain ⟨m, hm, rfl⟩ := in_J (m := 14) (by decide) q
      obtain ⟨i, hi, rfl⟩ := isShip_ex I.1.hn I.1.n8 p
      exact Res_q (w218_ok _ _ (s88 I.1 hi hm)) (s154 I.1 I.2.2.1 hi hm) I
    · exact Res_thr (kk := 2) (by decide) (w218_x2 _ _ (s88m p q)) (s154m I.1 I.2.2.1 p q) I
  · exact Res_thr (kk := 1) (by decide) (w218_x1 _ _ (s88n p)) (s154n I.1 I.2.2.1 p) I
theorem op_at (I : Inv α π β n l k) (c : Int32) : Res (fun hh => Run 219 0 [some (.ref (3)), some (.int (c)), some (.ref (75)), none] [] hh) (fun hh => Run 155 0 [some (.ref (70)), some (.int (c))] [] hh) z α π β η o od := by
  by_cases p : isCellC α 4 c
  · exact Res_q (w219_ok _ (s89 I.1 p)) (s155 I.1 I.2.2.1 p) I
  · exact Res_thr (kk := 1) (by decide) (w219_x1 _ (s89n p)) (s155n I.1 I.2.2.1 p) I
theorem op_distance (I : Inv α π β n l k) (a b : Int32) : Res (fun hh => Run 220 0 [some (.ref (3)), some (.int (a)), some (.int (b)), some (.ref (75)), none] [] hh) (fun hh => Run 156 0 [some (.ref (70)), some (.int (a)), some (.int (b))] [] hh) z α π β η o od := by
  by_cases p : isCellC α 4 a ∧ isCellC α 4 b
  · exact Res_q (w220_ok _ _ (s90 I.1 p)) (s156 I.1 I.2.2.1 p) I
  · exact Res_thr (kk := 1) (by decide) (w220_x1 _ _ (s90n p)) (s156n I.1 I.2.2.1 p) I
theorem op_bearing (I : Inv α π β n l k) (a b : Int32) : Res (fun hh => Run 221 0 [some (.ref (3)), some (.int (a)), some (.int (b)), some (.ref (75)), none] [] hh) (fun hh => Run 157 0 [some (.ref (70)), some (.int (a)), some (.int (b))] [] hh) z α π β η o od := by
  by_cases p : isCellC α 4 a ∧ isCellC α 4 b
  · exact Res_q (w221_ok _ _ (s91 I.1 p)) (s157 I.1 I.2.2.1 p) I
  · exact Res_thr (kk := 1) (by decide) (w221_x1 _ _ (s91n p)) (s157n I.1 I.2.2.1 p) I
end S54o
