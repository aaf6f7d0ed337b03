/-! a ship added -/
theorem launch_o (α : Mem) {a j : Nat} (h : j ≠ a) (x1 x2 x3 x4 x5 x6 : Int32) : launchC α a x1 x2 x3 x4 x5 x6 j = α j := by
  unfold launchC
  simp only [up2_ne _ h]
theorem launch_0 (α : Mem) (a : Nat) (x1 x2 x3 x4 x5 x6 : Int32) : launchC α a x1 x2 x3 x4 x5 x6 a 0 = x1 := by
  unfold launchC
  simp only [up2_rr, u1_0, u2_0, u3_0, u4_0, u5_0, u6_0, u7_0, u8_0, u9_0, u10_0, u11_0, u12_0, u13_0, u14_0]
theorem launch_1 (α : Mem) (a : Nat) (x1 x2 x3 x4 x5 x6 : Int32) : launchC α a x1 x2 x3 x4 x5 x6 a 1 = x2 := by
  unfold launchC
  simp only [up2_rr, u2_1, u3_1, u4_1, u5_1, u6_1, u7_1, u8_1, u9_1, u10_1, u11_1, u12_1, u13_1, u14_1]
theorem launch_2 (α : Mem) (a : Nat) (x1 x2 x3 x4 x5 x6 : Int32) : launchC α a x1 x2 x3 x4 x5 x6 a 2 = x3 := by
  unfold launchC
  simp only [up2_rr, u3_2, u4_2, u5_2, u6_2, u7_2, u8_2, u9_2, u10_2, u11_2, u12_2, u13_2, u14_2]
theorem launch_3 (α : Mem) (a : Nat) (x1 x2 x3 x4 x5 x6 : Int32) : launchC α a x1 x2 x3 x4 x5 x6 a 3 = x4 := by
  unfold launchC
  simp only [up2_rr, u4_3, u5_3, u6_3, u7_3, u8_3, u9_3, u10_3, u11_3, u12_3, u13_3, u14_3]
theorem launch_4 (α : Mem) (a : Nat) (x1 x2 x3 x4 x5 x6 : Int32) : launchC α a x1 x2 x3 x4 x5 x6 a 4 = 20 := by
  unfold launchC
  simp only [up2_rr, u5_4, u6_4, u7_4, u8_4, u9_4, u10_4, u11_4, u12_4, u13_4, u14_4]
theorem launch_5 (α : Mem) (a : Nat) (x1 x2 x3 x4 x5 x6 : Int32) : launchC α a x1 x2 x3 x4 x5 x6 a 5 = x5 := by
  unfold launchC
  simp only [up2_rr, u6_5, u7_5, u8_5, u9_5, u10_5, u11_5, u12_5, u13_5, u14_5]
theorem launch_6 (α : Mem) (a : Nat) (x1 x2 x3 x4 x5 x6 : Int32) : launchC α a x1 x2 x3 x4 x5 x6 a 6 = x5 := by
  unfold launchC
  simp only [up2_rr, u7_6, u8_6, u9_6, u10_6, u11_6, u12_6, u13_6, u14_6]
theorem launch_7 (α : Mem) (a : Nat) (x1 x2 x3 x4 x5 x6 : Int32) : launchC α a x1 x2 x3 x4 x5 x6 a 7 = x6 := by
  unfold launchC
  simp only [up2_rr, u8_7, u9_7, u10_7, u11_7, u12_7, u13_7, u14_7]
theorem launch_8 (α : Mem) (a : Nat) (x1 x2 x3 x4 x5 x6 : Int32) : launchC α a x1 x2 x3 x4 x5 x6 a 8 = x6 := by
  unfold launchC
  simp only [up2_rr, u9_8, u10_8, u11_8, u12_8, u13_8, u14_8]
theorem launch_9 (α : Mem) (a : Nat) (x1 x2 x3 x4 x5 x6 : Int32) : launchC α a x1 x2 x3 x4 x5 x6 a 9 = 0 := by
  unfold launchC
  simp only [up2_rr, u10_9, u11_9, u12_9, u13_9, u14_9]
theorem launch_10 (α : Mem) (a : Nat) (x1 x2 x3 x4 x5 x6 : Int32) : launchC α a x1 x2 x3 x4 x5 x6 a 10 = 0 := by
  unfold launchC
  simp only [up2_rr, u11_10, u12_10, u13_10, u14_10]
theorem launch_11 (α : Mem) (a : Nat) (x1 x2 x3 x4 x5 x6 : Int32) : launchC α a x1 x2 x3 x4 x5 x6 a 11 = 0 := by
  unfold launchC
  simp only [up2_rr, u12_11, u13_11, u14_11]
theorem launch_12 (α : Mem) (a : Nat) (x1 x2 x3 x4 x5 x6 : Int32) : launchC α a x1 x2 x3 x4 x5 x6 a 12 = -1 := by
  unfold launchC
  simp only [up2_rr, u13_12, u14_12]
theorem launch_13 (α : Mem) (a : Nat) (x1 x2 x3 x4 x5 x6 : Int32) : launchC α a x1 x2 x3 x4 x5 x6 a 13 = 0 := by
  unfold launchC
  simp only [up2_rr, u14_13]
theorem launch_14 (α : Mem) (a : Nat) (x1 x2 x3 x4 x5 x6 : Int32) : launchC α a x1 x2 x3 x4 x5 x6 a 14 = 0 := by
  unfold launchC
  simp only [up2_rr]
theorem Fs_launch (α : Mem) {i : Nat} (h : i < 8) (x1 x2 x3 x4 x5 x6 : Int32) : Fs α (launchC α (7 + i) x1 x2 x3 x4 x5 x6) := fun j q _ => launch_o α (fun w => q (by omega)) _ _ _ _ _ _
def addM (α : Mem) (n : Nat) (x1 x2 x3 x4 x5 x6 : Int32) : Mem := up2 (launchC α (7 + n) x1 x2 x3 x4 x5 x6) 4 5 (J (n + 1))
def addC (α : Mem) (n : Nat) (x1 x2 x3 x4 x5 x6 : Int32) : Mem := readyC (addM α n x1 x2 x3 x4 x5 x6) (7 + n)
theorem addM_4 (α : Mem) (n : Nat) (x1 x2 x3 x4 x5 x6 : Int32) {m : Nat} (h : m ≠ 5) : addM α n x1 x2 x3 x4 x5 x6 4 m = α 4 m := by
  unfold addM; rw [up2_a, if_neg h, launch_o _ (by omega)]
theorem addM_5 (α : Mem) (n : Nat) (x1 x2 x3 x4 x5 x6 : Int32) : addM α n x1 x2 x3 x4 x5 x6 5 = α 5 := by
  unfold addM; rw [up2_ne _ (by decide), launch_o _ (by omega)]
theorem addM_o (α : Mem) (n : Nat) (x1 x2 x3 x4 x5 x6 : Int32) {i : Nat} (h : i ≠ n) : addM α n x1 x2 x3 x4 x5 x6 (7 + i) = α (7 + i) := by
  unfold addM; rw [up2_ne _ (by omega), launch_o _ (by omega)]
theorem addM_n (α : Mem) (n : Nat) (x1 x2 x3 x4 x5 x6 : Int32) : addM α n x1 x2 x3 x4 x5 x6 (7 + n) = launchC α (7 + n) x1 x2 x3 x4 x5 x6 (7 + n) := by
  unfold addM; rw [up2_ne _ (by omega)]
theorem Ok_addM {α : Mem} {n : Nat} (H : Ok α n) (hn : n < 8) {x1 x2 x3 x4 x5 x6 : Int32} (hg : givC x1 x3 x4 x5 x6) (hc : isCellC α 4 x2) : Ok (addM α n x1 x2 x3 x4 x5 x6) (n + 1) := by
  obtain ⟨⟨a1, a2⟩, ⟨b1, b2⟩, ⟨c1, c2⟩, ⟨d1, d2⟩, ⟨e1, e2⟩⟩ := hg
  have t60 : (60 : Int32).toInt = 60 := rfl
  have t5 : (5 : Int32).toInt = 5 := rfl
  have hw := H.wh
  have h1 := hc.1; have h2 := hc.2.1
  rw [i32_le, ti0] at h1; rw [i32_lt, hw.1] at h2
  rw [i32_lt, ti0] at a1 b1 d1
  rw [i32_lt, ti1] at a2 c1 e1
  rw [i32_lt, t5] at b2
  rw [i32_lt, t60] at c2 e2
  rw [i32_lt, ti12] at d2
  have hs : x1 = 0 ∨ x1 = 1 := by rw [i32_eq, i32_eq, ti0, ti1]; omega
  obtain ⟨e, he, eh⟩ := J_rng (v := x3) (k := 6) (by omega) (by omega)
  have g4 : ∀ m, m ≠ 5 → addM α n x1 x2 x3 x4 x5 x6 4 m = α 4 m := fun m hm => addM_4 α n x1 x2 x3 x4 x5 x6 hm
  have g45 : addM α n x1 x2 x3 x4 x5 x6 4 5 = J (n + 1) := by unfold addM; rw [up2_rr]
  unfold Ok
  rw [g4 0 (by decide), g4 1 (by decide), g4 2 (by decide), g4 3 (by decide), g45, addM_5]
  refine ⟨H.cols, H.rows, H.wd, H.ws, by omega, rfl, H.rk, ?_, ?_, ?_, ?_, ?_, ?_, ?_, ?_, ?_, ?_, ?_, ?_, ?_, ?_, ?_⟩
  · intro i hi
    by_cases q : i = n
    · subst q; rw [addM_n, launch_0]; exact hs
    · rw [addM_o _ _ _ _ _ _ _ _ q]; exact H.side i (by omega)
  · intro i hi
    by_cases q : i = n
    · subst q; rw [addM_n, launch_1]; exact ⟨by omega, by omega⟩
    · rw [addM_o _ _ _ _ _ _ _ _ q]; exact H.cell i (by omega)
  · intro i hi
    by_cases q : i = n
    · subst q; rw [addM_n, launch_2]; exact ⟨e, he, eh⟩
    · rw [addM_o _ _ _ _ _ _ _ _ q]; exact H.head i (by omega)
  · intro i hi
    by_cases q : i = n
    · subst q; rw [addM_n, launch_3]; exact ⟨by omega, by omega⟩
    · rw [addM_o _ _ _ _ _ _ _ _ q]; exact H.hull i (by omega)
  · intro i hi
    by_cases q : i = n
    · subst q; rw [addM_n, launch_4]; exact ⟨by decide, by decide⟩
    · rw [addM_o _ _ _ _ _ _ _ _ q]; exact H.sails i (by omega)
  · intro i hi
    by_cases q : i = n
    · subst q; rw [addM_n, launch_5]; exact ⟨by omega, by omega⟩
    · rw [addM_o _ _ _ _ _ _ _ _ q]; exact H.gl i (by omega)
  · intro i hi
    by_cases q : i = n
    · subst q; rw [addM_n, launch_6]; exact ⟨by omega, by omega⟩
    · rw [addM_o _ _ _ _ _ _ _ _ q]; exact H.gr i (by omega)
  · intro i hi
    by_cases q : i = n
    · subst q; rw [addM_n, launch_7]; exact ⟨by omega, by omega⟩
    · rw [addM_o _ _ _ _ _ _ _ _ q]; exact H.crew i (by omega)
  · intro i hi
    by_cases q : i = n
    · subst q; rw [addM_n, launch_8]; exact ⟨by omega, by omega⟩
    · rw [addM_o _ _ _ _ _ _ _ _ q]; exact H.first i (by omega)
  · intro i hi
    by_cases q : i = n
    · subst q; rw [addM_n, launch_9]; exact ⟨by decide, by decide⟩
    · rw [addM_o _ _ _ _ _ _ _ _ q]; exact H.pts i (by omega)
  · intro i hi
    by_cases q : i = n
    · subst q; rw [addM_n, launch_10]; exact ⟨by decide, by decide⟩
    · rw [addM_o _ _ _ _ _ _ _ _ q]; exact H.wl i (by omega)
  · intro i hi
    by_cases q : i = n
    · subst q; rw [addM_n, launch_11]; exact ⟨by decide, by decide⟩
    · rw [addM_o _ _ _ _ _ _ _ _ q]; exact H.wr i (by omega)
  · intro i hi
    by_cases q : i = n
    · subst q; rw [addM_n, launch_12]; exact Or.inl rfl
    · rw [addM_o _ _ _ _ _ _ _ _ q]; exact by rcases H.part i (by omega) with w | ⟨j, j1, j2, j3⟩; exact Or.inl w; exact Or.inr ⟨j, by omega, j2, j3⟩
  · intro i hi
    by_cases q : i = n
    · subst q; rw [addM_n, launch_13]; exact Or.inl rfl
    · rw [addM_o _ _ _ _ _ _ _ _ q]; exact H.bo i (by omega)
  · intro i hi
    by_cases q : i = n
    · subst q; rw [addM_n, launch_14]; exact Or.inl rfl
    · rw [addM_o _ _ _ _ _ _ _ _ q]; exact H.way i (by omega)
theorem Dj_addM {α : Mem} {n : Nat} (D : Dj α n) (hn : n < 8) {x1 x2 x3 x4 x5 x6 : Int32} (hf : shipOnF α x2 n 0 = -1) : Dj (addM α n x1 x2 x3 x4 x5 x6) (n + 1) := by
  have hno := shipOn_no n 0 (by omega) hf
  intro i j hi hj hij h1 h2
  by_cases q : i = n
  · subst q
    have q2 : j ≠ i := fun w => hij w.symm
    rw [addM_n, launch_1, addM_o _ _ _ _ _ _ _ _ q2]
    rw [addM_o _ _ _ _ _ _ _ _ q2] at h2
    exact fun w => hno j (by omega) (by omega) h2 w.symm
  · rw [addM_o _ _ _ _ _ _ _ _ q] at h1 ⊢
    by_cases q2 : j = n
    · subst q2
      rw [addM_n, launch_1]
      exact hno i (by omega) (by omega) h1
    · rw [addM_o _ _ _ _ _ _ _ _ q2] at h2 ⊢
      exact D i j (by omega) (by omega) hij h1 h2
theorem Dj_ready {α : Mem} {n : Nat} (D : Dj α n) (a : Nat) : Dj (readyC α a) n := by
  unfold readyC
  exact Dj_up (Dj_up (Dj_up D (by decide)) (by decide)) (by decide)
theorem mh86 : mHh 86 = [] := rfl
theorem side_iff (x : Int32) : sideC x ↔ (¬ x < 0 ∧ ¬ 1 < x) := by
  unfold sideC
  rw [i32_eq, i32_eq, i32_lt, i32_lt, ti0, ti1]; omega
section S59
variable {z : Zr} {α β γ : Mem} {π : Nat → Nat} {η : Int64} {o : Nat → Int64} {od : Nat → UInt64} {n l k : Nat} {x1 x2 x3 x4 x5 x6 : Int32}
theorem s86 (H : Ok α n) (hp : seas π) (hk : α 15 1 = J k) (h4 : k ≤ 4) (hn : n < 8) (hg : givC x1 x3 x4 x5 x6) (hf : freeC α n x2) : Run 86 0 [some (.ref (3)), some (.int (x1)), some (.int (x2)), some (.int (x3)), some (.int (x4)), some (.int (x5)), some (.int (x6)), none, none] [] (HC z α π β η o od) = some (.inl (some (.int (J n))), (HC z (addC (saveC α π n k) n x1 x2 x3 x4 x5 x6) (saveP π k) β η o od)) := by
  have h8 := H.n8
  have sq : Sq α (saveC α π n k) := fun j q w => save_sq hp h4 h8 q w
  have H1 := Ok_sm (Sm_of h8 sq) H
  have hs := s30 (z := z) (β := β) (η := η) (o := o) (od := od) H hp hk h4
  have hm : Run 71 0 [some (.ref (7 + n)), some (.int (x1)), some (.int (x2)), some (.int (x3)), some (.int (x4)), some (.int (x5)), some (.int (x6))] [] (HC z (saveC α π n k) (saveP π k) β η o od) = _ := s71 (kd_ship hn) x1 x2 x3 x4 x5 x6
  have HM := Ok_addM H1 hn hg (by rw [cell_sq sq]; exact hf.1)
  have hr : Run 23 0 [some (.ref (61)), some (.ref (7 + n)), none] [] (HC z (addM (saveC α π n k) n x1 x2 x3 x4 x5 x6) (saveP π k) β η o od) = _ := s23 HM (by omega)
  unfold addM at hr
  have n5 : launchC (saveC α π n k) (7 + n) x1 x2 x3 x4 x5 x6 4 = saveC α π n k 4 := launch_o _ (by omega) ..
  have s1 := (side_iff x1).mpr hg.1
  obtain ⟨-, g2, ⟨g3, g4⟩, ⟨g5, g6⟩, ⟨g7, g8⟩⟩ := hg
  unfold addC addM
  simp only [↓reduceIte, e86_0, e86_1, e86_2, e86_5, e86_6, e86_9, e86_12, e86_13, e86_16, e86_19, e86_29, e86_31, e86_32, e86_35, e86_37, e86_39, e86_42, e86_44, e86_47, e86_49, e86_51, e86_54, e86_56, e86_57, e86_60, e86_62, e86_64, e86_67, e86_77, e86_78, e86_81, e86_84, e86_86, e86_89, e86_90, e86_93, e86_94, e86_97, e86_100, e86_110, e86_111, e86_114, e86_115, e86_118, e86_121, e86_122, e86_125, e86_128, e86_130, e86_131, e86_134, e86_137, e86_139, e86_140, e86_142, e86_144, e86_145, e86_146, e86_147, e86_149, e86_151, e86_153, e86_156, e86_157, e86_160, e86_162, e86_163, e86_164, e86_167, e86_168, e86_171, e86_173, e86_176, e86_178, isO3, s109 _ hf.1, s112, bi_t s1, s113, bi_t g2, g3, g4, g5, g6, g7, g8, le_not, gf8_0 kd3, gf8_1 kd3, gf8_2 kd3, gf6_5 kd4, gf6_7 kd4, H.hn, H1.hn, (show (8 : Int32) = J 8 from rfl), J_lt (show n < 2147483648 by omega) (show 8 < 2147483648 by omega), hn, isO4, isO15, isO61, isS hn, s51 H, bi_t hf, i1_0, hs, gaR21 kd6 (inB_J hn (by omega)), J_tn (show n < 2147483648 by omega), hm, J_succ, pf6_5 kd4, hr, aft_v, aft_n, Option.bind_some, rf_some, ck_i, ck_r, ck_n, nb0, nb1, nbi, Nat.reduceAdd, if_true, if_false, not_false_eq_true, not_true_eq_false]
theorem s86n (h : ¬ isCellC α 4 x2) : Run 86 0 [some (.ref (3)), some (.int (x1)), some (.int (x2)), some (.int (x3)), some (.int (x4)), some (.int (x5)), some (.int (x6)), none, none] [] (HC z α π β η o od) = some (.inr "java/lang/IndexOutOfBoundsException", HC (zb z) α π β η o od) := by
  simp only [↓reduceIte, e86_0, e86_1, e86_2, e86_5, e86_6, e86_9, e86_12, e86_13, e86_16, e86_19, e86_29, e86_31, e86_32, e86_35, e86_37, e86_39, e86_42, e86_44, e86_47, e86_49, e86_51, e86_54, e86_56, e86_57, e86_60, e86_62, e86_64, e86_67, e86_77, e86_78, e86_81, e86_84, e86_86, e86_89, e86_90, e86_93, e86_94, e86_97, e86_100, e86_110, e86_111, e86_114, e86_115, e86_118, e86_121, e86_122, e86_125, e86_128, e86_130, e86_131, e86_134, e86_137, e86_139, e86_140, e86_142, e86_144, e86_145, e86_146, e86_147, e86_149, e86_151, e86_153, e86_156, e86_157, e86_160, e86_162, e86_163, e86_164, e86_167, e86_168, e86_171, e86_173, e86_176, e86_178, isO3, s109n _ h, aft_x mh86, aft_v, aft_n, Option.bind_some, rf_some, ck_i, ck_r, ck_n, nb0, nb1, nbi, Nat.reduceAdd, if_true, if_false, not_false_eq_true, not_true_eq_false]
theorem s86m (hc : isCellC α 4 x2) (h : ¬ givC x1 x3 x4 x5 x6) : Run 86 0 [some (.ref (3)), some (.int (x1)), some (.int (x2)), some (.int (x3)), some (.int (x4)), some (.int (x5)), some (.int (x6)), none, none] [] (HC z α π β η o od) = some (.inr "java/lang/IllegalArgumentException", HC (zb z) α π β η o od) := by
  by_cases q1 : sideC x1
  · by_cases q2 : dirC x3
    · by_cases q3 : x4 < 1
      · simp only [↓reduceIte, e86_0, e86_1, e86_2, e86_5, e86_6, e86_9, e86_12, e86_13, e86_16, e86_19, e86_29, e86_31, e86_32, e86_35, e86_37, e86_39, e86_42, e86_44, e86_47, e86_49, e86_51, e86_54, e86_56, e86_57, e86_60, e86_62, e86_64, e86_67, e86_77, e86_78, e86_81, e86_84, e86_86, e86_89, e86_90, e86_93, e86_94, e86_97, e86_100, e86_110, e86_111, e86_114, e86_115, e86_118, e86_121, e86_122, e86_125, e86_128, e86_130, e86_131, e86_134, e86_137, e86_139, e86_140, e86_142, e86_144, e86_145, e86_146, e86_147, e86_149, e86_151, e86_153, e86_156, e86_157, e86_160, e86_162, e86_163, e86_164, e86_167, e86_168, e86_171, e86_173, e86_176, e86_178, isO3, s109 _ hc, s112, bi_t q1, s113, bi_t q2, i1_0, q3, hb_HC, aft_v, aft_n, Option.bind_some, rf_some, ck_i, ck_r, ck_n, nb0, nb1, nbi, Nat.reduceAdd, if_true, if_false, not_false_eq_true, not_true_eq_false]
      by_cases q4 : 60 < x4
      · simp only [↓reduceIte, e86_0, e86_1, e86_2, e86_5, e86_6, e86_9, e86_12, e86_13, e86_16, e86_19, e86_29, e86_31, e86_32, e86_35, e86_37, e86_39, e86_42, e86_44, e86_47, e86_49, e86_51, e86_54, e86_56, e86_57, e86_60, e86_62, e86_64, e86_67, e86_77, e86_78, e86_81, e86_84, e86_86, e86_89, e86_90, e86_93, e86_94, e86_97, e86_100, e86_110, e86_111, e86_114, e86_115, e86_118, e86_121, e86_122, e86_125, e86_128, e86_130, e86_131, e86_134, e86_137, e86_139, e86_140, e86_142, e86_144, e86_145, e86_146, e86_147, e86_149, e86_151, e86_153, e86_156, e86_157, e86_160, e86_162, e86_163, e86_164, e86_167, e86_168, e86_171, e86_173, e86_176, e86_178, isO3, s109 _ hc, s112, bi_t q1, s113, bi_t q2, i1_0, q3, q4, hb_HC, aft_v, aft_n, Option.bind_some, rf_some, ck_i, ck_r, ck_n, nb0, nb1, nbi, Nat.reduceAdd, if_true, if_false, not_false_eq_true, not_true_eq_false]
      by_cases q5 : x5 < 0
      · simp only [↓reduceIte, e86_0, e86_1, e86_2, e86_5, e86_6, e86_9, e86_12, e86_13, e86_16, e86_19, e86_29, e86_31, e86_32, e86_35, e86_37, e86_39, e86_42, e86_44, e86_47, e86_49, e86_51, e86_54, e86_56, e86_57, e86_60, e86_62, e86_64, e86_67, e86_77, e86_78, e86_81, e86_84, e86_86, e86_89, e86_90, e86_93, e86_94, e86_97, e86_100, e86_110, e86_111, e86_114, e86_115, e86_118, e86_121, e86_122, e86_125, e86_128, e86_130, e86_131, e86_134, e86_137, e86_139, e86_140, e86_142, e86_144, e86_145, e86_146, e86_147, e86_149, e86_151, e86_153, e86_156, e86_157, e86_160, e86_162, e86_163, e86_164, e86_167, e86_168, e86_171, e86_173, e86_176, e86_178, isO3, s109 _ hc, s112, bi_t q1, s113, bi_t q2, i1_0, q3, q4, q5, hb_HC, aft_v, aft_n, Option.bind_some, rf_some, ck_i, ck_r, ck_n, nb0, nb1, nbi, Nat.reduceAdd, if_true, if_false, not_false_eq_true, not_true_eq_false]
      by_cases q6 : 12 < x5
      · simp only [↓reduceIte, e86_0, e86_1, e86_2, e86_5, e86_6, e86_9, e86_12, e86_13, e86_16, e86_19, e86_29, e86_31, e86_32, e86_35, e86_37, e86_39, e86_42, e86_44, e86_47, e86_49, e86_51, e86_54, e86_56, e86_57, e86_60, e86_62, e86_64, e86_67, e86_77, e86_78, e86_81, e86_84, e86_86, e86_89, e86_90, e86_93, e86_94, e86_97, e86_100, e86_110, e86_111, e86_114, e86_115, e86_118, e86_121, e86_122, e86_125, e86_128, e86_130, e86_131, e86_134, e86_137, e86_139, e86_140, e86_142, e86_144, e86_145, e86_146, e86_147, e86_149, e86_151, e86_153, e86_156, e86_157, e86_160, e86_162, e86_163, e86_164, e86_167, e86_168, e86_171, e86_173, e86_176, e86_178, isO3, s109 _ hc, s112, bi_t q1, s113, bi_t q2, i1_0, q3, q4, q5, q6, hb_HC, aft_v, aft_n, Option.bind_some, rf_some, ck_i, ck_r, ck_n, nb0, nb1, nbi, Nat.reduceAdd, if_true, if_false, not_false_eq_true, not_true_eq_false]
      by_cases q7 : x6 < 1
      · simp only [↓reduceIte, e86_0, e86_1, e86_2, e86_5, e86_6, e86_9, e86_12, e86_13, e86_16, e86_19, e86_29, e86_31, e86_32, e86_35, e86_37, e86_39, e86_42, e86_44, e86_47, e86_49, e86_51, e86_54, e86_56, e86_57, e86_60, e86_62, e86_64, e86_67, e86_77, e86_78, e86_81, e86_84, e86_86, e86_89, e86_90, e86_93, e86_94, e86_97, e86_100, e86_110, e86_111, e86_114, e86_115, e86_118, e86_121, e86_122, e86_125, e86_128, e86_130, e86_131, e86_134, e86_137, e86_139, e86_140, e86_142, e86_144, e86_145, e86_146, e86_147, e86_149, e86_151, e86_153, e86_156, e86_157, e86_160, e86_162, e86_163, e86_164, e86_167, e86_168, e86_171, e86_173, e86_176, e86_178, isO3, s109 _ hc, s112, bi_t q1, s113, bi_t q2, i1_0, q3, q4, q5, q6, q7, hb_HC, aft_v, aft_n, Option.bind_some, rf_some, ck_i, ck_r, ck_n, nb0, nb1, nbi, Nat.reduceAdd, if_true, if_false, not_false_eq_true, not_true_eq_false]
      have q8 : 60 < x6 := by by_cases x : 60 < x6; exact x; exact absurd ⟨(side_iff x1).mp q1, q2, ⟨q3, q4⟩, ⟨q5, q6⟩, q7, x⟩ h
      simp only [↓reduceIte, e86_0, e86_1, e86_2, e86_5, e86_6, e86_9, e86_12, e86_13, e86_16, e86_19, e86_29, e86_31, e86_32, e86_35, e86_37, e86_39, e86_42, e86_44, e86_47, e86_49, e86_51, e86_54, e86_56, e86_57, e86_60, e86_62, e86_64, e86_67, e86_77, e86_78, e86_81, e86_84, e86_86, e86_89, e86_90, e86_93, e86_94, e86_97, e86_100, e86_110, e86_111, e86_114, e86_115, e86_118, e86_121, e86_122, e86_125, e86_128, e86_130, e86_131, e86_134, e86_137, e86_139, e86_140, e86_142, e86_144, e86_145, e86_146, e86_147, e86_149, e86_151, e86_153, e86_156, e86_157, e86_160, e86_162, e86_163, e86_164, e86_167, e86_168, e86_171, e86_173, e86_176, e86_178, isO3, s109 _ hc, s112, bi_t q1, s113, bi_t q2, i1_0, q3, q4, q5, q6, q7, q8, le_not, hb_HC, aft_v, aft_n, Option.bind_some, rf_some, ck_i, ck_r, ck_n, nb0, nb1, nbi, Nat.reduceAdd, if_true, if_false, not_false_eq_true, not_true_eq_false]
    · simp only [↓reduceIte, e86_0, e86_1, e86_2, e86_5, e86_6, e86_9, e86_12, e86_13, e86_16, e86_19, e86_29, e86_31, e86_32, e86_35, e86_37, e86_39, e86_42, e86_44, e86_47, e86_49, e86_51, e86_54, e86_56, e86_57, e86_60, e86_62, e86_64, e86_67, e86_77, e86_78, e86_81, e86_84, e86_86, e86_89, e86_90, e86_93, e86_94, e86_97, e86_100, e86_110, e86_111, e86_114, e86_115, e86_118, e86_121, e86_122, e86_125, e86_128, e86_130, e86_131, e86_134, e86_137, e86_139, e86_140, e86_142, e86_144, e86_145, e86_146, e86_147, e86_149, e86_151, e86_153, e86_156, e86_157, e86_160, e86_162, e86_163, e86_164, e86_167, e86_168, e86_171, e86_173, e86_176, e86_178, isO3, s109 _ hc, s112, bi_t q1, s113, bi_f q2, i1_0, hb_HC, aft_v, aft_n, Option.bind_some, rf_some, ck_i, ck_r, ck_n, nb0, nb1, nbi, Nat.reduceAdd, if_true, if_false, not_false_eq_true, not_true_eq_false]
  · simp only [↓reduceIte, e86_0, e86_1, e86_2, e86_5, e86_6, e86_9, e86_12, e86_13, e86_16, e86_19, e86_29, e86_31, e86_32, e86_35, e86_37, e86_39, e86_42, e86_44, e86_47, e86_49, e86_51, e86_54, e86_56, e86_57, e86_60, e86_62, e86_64, e86_67, e86_77, e86_78, e86_81, e86_84, e86_86, e86_89, e86_90, e86_93, e86_94, e86_97, e86_100, e86_110, e86_111, e86_114, e86_115, e86_118, e86_121, e86_122, e86_125, e86_128, e86_130, e86_131, e86_134, e86_137, e86_139, e86_140, e86_142, e86_144, e86_145, e86_146, e86_147, e86_149, e86_151, e86_153, e86_156, e86_157, e86_160, e86_162, e86_163, e86_164, e86_167, e86_168, e86_171, e86_173, e86_176, e86_178, isO3, s109 _ hc, s112, bi_f q1, hb_HC, aft_v, aft_n, Option.bind_some, rf_some, ck_i, ck_r, ck_n, nb0, nb1, nbi, Nat.reduceAdd, if_true, if_false, not_false_eq_true, not_true_eq_false]
theorem s86x (H : Ok α n) (hc : isCellC α 4 x2) (hg : givC x1 x3 x4 x5 x6) (h : ¬ (n < 8 ∧ freeC α n x2)) : Run 86 0 [some (.ref (3)), some (.int (x1)), some (.int (x2)), some (.int (x3)), some (.int (x4)), some (.int (x5)), some (.int (x6)), none, none] [] (HC z α π β η o od) = some (.inr "java/lang/IllegalStateException", HC (zb z) α π β η o od) := by
  have h8 := H.n8
  have s1 := (side_iff x1).mpr hg.1
  obtain ⟨-, g2, ⟨g3, g4⟩, ⟨g5, g6⟩, ⟨g7, g8⟩⟩ := hg
  by_cases q : n < 8
  · have q2 : ¬ freeC α n x2 := fun w => h ⟨q, w⟩
    simp only [↓reduceIte, e86_0, e86_1, e86_2, e86_5, e86_6, e86_9, e86_12, e86_13, e86_16, e86_19, e86_29, e86_31, e86_32, e86_35, e86_37, e86_39, e86_42, e86_44, e86_47, e86_49, e86_51, e86_54, e86_56, e86_57, e86_60, e86_62, e86_64, e86_67, e86_77, e86_78, e86_81, e86_84, e86_86, e86_89, e86_90, e86_93, e86_94, e86_97, e86_100, e86_110, e86_111, e86_114, e86_115, e86_118, e86_121, e86_122, e86_125, e86_128, e86_130, e86_131, e86_134, e86_137, e86_139, e86_140, e86_142, e86_144, e86_145, e86_146, e86_147, e86_149, e86_151, e86_153, e86_156, e86_157, e86_160, e86_162, e86_163, e86_164, e86_167, e86_168, e86_171, e86_173, e86_176, e86_178, isO3, s109 _ hc, s112, bi_t s1, s113, bi_t g2, g3, g4, g5, g6, g7, g8, le_not, gf8_0 kd3, gf6_5 kd4, H.hn, (show (8 : Int32) = J 8 from rfl), J_lt (show n < 2147483648 by omega) (show 8 < 2147483648 by omega), q, isO4, s51 H, bi_f q2, i1_0, hb_HC, aft_v, aft_n, Option.bind_some, rf_some, ck_i, ck_r, ck_n, nb0, nb1, nbi, Nat.reduceAdd, if_true, if_false, not_false_eq_true, not_true_eq_false]
  · simp only [↓reduceIte, e86_0, e86_1, e86_2, e86_5, e86_6, e86_9, e86_12, e86_13, e86_16, e86_19, e86_29, e86_31, e86_32, e86_35, e86_37, e86_39, e86_42, e86_44, e86_47, e86_49, e86_51, e86_54, e86_56, e86_57, e86_60, e86_62, e86_64, e86_67, e86_77, e86_78, e86_81, e86_84, e86_86, e86_89, e86_90, e86_93, e86_94, e86_97, e86_100, e86_110, e86_111, e86_114, e86_115, e86_118, e86_121, e86_122, e86_125, e86_128, e86_130, e86_131, e86_134, e86_137, e86_139, e86_140, e86_142, e86_144, e86_145, e86_146, e86_147, e86_149, e86_151, e86_153, e86_156, e86_157, e86_160, e86_162, e86_163, e86_164, e86_167, e86_168, e86_171, e86_173, e86_176, e86_178, isO3, s109 _ hc, s112, bi_t s1, s113, bi_t g2, g3, g4, g5, g6, g7, g8, le_not, gf8_0 kd3, gf6_5 kd4, H.hn, (show (8 : Int32) = J 8 from rfl), J_lt (show n < 2147483648 by omega) (show 8 < 2147483648 by omega), q, i1_0, hb_HC, aft_v, aft_n, Option.bind_some, rf_some, ck_i, ck_r, ck_n, nb0, nb1, nbi, Nat.reduceAdd, if_true, if_false, not_false_eq_true, not_true_eq_false]
end S59
section S59m
variable {z : Zr} {α β γ : Mem} {π : Nat → Nat} {η : Int64} {o : Nat → Int64} {od : Nat → UInt64} {β' : Mem} {n l k : Nat} {x1 x2 x3 x4 x5 x6 : Int32}
def putB (B : Mem) (n : Nat) (x1 x2 x3 x4 x5 x6 : Int32) : Mem := (up2 (up2 (up2 (up2 (up2 (up2 (up2 (up2 (up2 (up2 (up2 (up2 (up2 B 71 5 (J (n + 1))) 71 (6 + 15 * n + 0) x1) 71 (6 + 15 * n + 1) x2) 71 (6 + 15 * n + 2) x3) 71 (6 + 15 * n + 3) x4) 71 (6 + 15 * n + 4) 20) 71 (6 + 15 * n + 5) x5) 71 (6 + 15 * n + 6) x5) 71 (6 + 15 * n + 7) x6) 71 (6 + 15 * n + 12) x6) 71 (6 + 15 * n + 9) 0) 71 (6 + 15 * n + 10) 0) 71 (6 + 15 * n + 11) (-1))
end S59m
section S59o
variable {z : Zr} {α β γ : Mem} {π : Nat → Nat} {η : Int64} {o : Nat → Int64} {od : Nat → UInt64} {n l k : Nat} {x1 x2 x3 x4 x5 x6 : Int32}
theorem putB_m2 (B : Mem) (n : Nat) (x1 x2 x3 x4 x5 x6 : Int32) : putB B n x1 x2 x3 x4 x5 x6 71 (6 + 15 * n + 2) = x3 := by
  unfold putB
  repeat (rw [up2_a, if_neg (by omega)])
  rw [up2_a, if_pos rfl]
theorem putB_m4 (B : Mem) (n : Nat) (x1 x2 x3 x4 x5 x6 : Int32) : putB B n x1 x2 x3 x4 x5 x6 71 (6 + 15 * n + 4) = 20 := by
  unfold putB
  repeat (rw [up2_a, if_neg (by omega)])
  rw [up2_a, if_pos rfl]
theorem putB_h (B : Mem) (n : Nat) (x1 x2 x3 x4 x5 x6 : Int32) {j : Nat} (h : j < 5) : putB B n x1 x2 x3 x4 x5 x6 71 j = B 71 j := by
  unfold putB
  repeat (rw [up2_a, if_neg (by omega)])
end S59o
