/-! a ship added -/
theorem launch_o (α : Mem) {a j : Nat} (h : j ≠ a) (x1 x2 x3 x4 x5 x6 : Int32) : launchC α a x1 x2 x3 x4 x5 x6 j = α j := by
  unfold launchC
  simp only [up2_ne _ h]
theorem launch_0 (α : Mem) (a : Nat) (x1 x2 x3 x4 x5 x6 : Int32) : launchC α a x1 x2 x3 x4 x5 x6 a 0 = x1 := by
  unfold launchC
  simp only [up2_rr, u1_0, u2_0, u3_0, u4_0, u5_0, u6_0, u7_0, u8_0, u9_0, u10_0, u11_0, u12_0, u13_0, u14_0]
theorem launch_1 (α : Mem) (a : Nat) (x1 x2 x3 x4 x5 x6 : Int32) : launchC α a x1 x2 x3 x4 x5 x6 a 1 = x2 := by
  unfold launchC
  simp only [up2_rr, u2_1, u3_1, u4_1, u5_1, u6_1, u7_1, u8_1, u9_1, u10_1, u11_1, u12_1, u13_1, u14_1]
theorem launch_2 (α : Mem) (a : Nat) (x1 x2 x3 x4 x5 x6 : Int32) : launchC α a x1 x2 x3 x4 x5 x6 a 2 = x3 := by
  unfold launchC
  simp only [up2_rr, u3_2, u4_2, u5_2, u6_2, u7_2, u8_2, u9_2, u10_2, u11_2, u12_2, u13_2, u14_2]
theorem launch_3 (α : Mem) (a : Nat) (x1 x2 x3 x4 x5 x6 : Int32) : launchC α a x1 x2 x3 x4 x5 x6 a 3 = x4 := by
  unfold launchC
  simp only [up2_rr, u4_3, u5_3, u6_3, u7_3, u8_3, u9_3, u10_3, u11_3, u12_3, u13_3, u14_3]
theorem launch_4 (α : Mem) (a : Nat) (x1 x2 x3 x4 x5 x6 : Int32) : launchC α a x1 x2 x3 x4 x5 x6 a 4 = 20 := by
  unfold launchC
  simp only [up2_rr, u5_4, u6_4, u7_4, u8_4, u9_4, u10_4, u11_4, u12_4, u13_4, u14_4]
theorem launch_5 (α : Mem) (a : Nat) (x1 x2 x3 x4 x5 x6 : Int32) : launchC α a x1 x2 x3 x4 x5 x6 a 5 = x5 := by
  unfold launchC
  simp only [up2_rr, u6_5, u7_5, u8_5, u9_5, u10_5, u11_5, u12_5, u13_5, u14_5]
theorem launch_6 (α : Mem) (a : Nat) (x1 x2 x3 x4 x5 x6 : Int32) : launchC α a x1 x2 x3 x4 x5 x6 a 6 = x5 := by
  unfold launchC
  simp only [up2_rr, u7_6, u8_6, u9_6, u10_6, u11_6, u12_6, u13_6, u14_6]
theorem launch_7 (α : Mem) (a : Nat) (x1 x2 x3 x4 x5 x6 : Int32) : launchC α a x1 x2 x3 x4 x5 x6 a 7 = x6 := by
  unfold launchC
  simp only [up2_rr, u8_7, u9_7, u10_7, u11_7, u12_7, u13_7, u14_7]
theorem launch_8 (α : Mem) (a : Nat) (x1 x2 x3 x4 x5 x6 : Int32) : launchC α a x1 x2 x3 x4 x5 x6 a 8 = x6 := by
  unfold launchC
  simp only [up2_rr, u9_8, u10_8, u11_8, u12_8, u13_8, u14_8]
theorem launch_9 (α : Mem) (a : Nat) (x1 x2 x3 x4 x5 x6 : Int32) : launchC α a x1 x2 x3 x4 x5 x6 a 9 = 0 := by
  unfold launchC
  simp only [up2_rr, u10_9, u11_9, u12_9, u13_9, u14_9]
theorem launch_10 (α : Mem) (a : Nat) (x1 x2 x3 x4 x5 x6 : Int32) : launchC α a x1 x2 x3 x4 x5 x6 a 10 = 0 := by
  unfold launchC
  simp only [up2_rr, u11_10, u12_10, u13_10, u14_10]
theorem launch_11 (α : Mem) (a : Nat) (x1 x2 x3 x4 x5 x6 : Int32) : launchC α a x1 x2 x3 x4 x5 x6 a 11 = 0 := by
  unfold launchC
  simp only [up2_rr, u12_11, u13_11, u14_11]
theorem launch_12 (α : Mem) (a : Nat) (x1 x2 x3 x4 x5 x6 : Int32) : launchC α a x1 x2 x3 x4 x5 x6 a 12 = -1 := by
  unfold launchC
  simp only [up2_rr, u13_12, u14_12]
theorem launch_13 (α : Mem) (a : Nat) (x1 x2 x3 x4 x5 x6 : Int32) : launchC α a x1 x2 x3 x4 x5 x6 a 13 = 0 := by
  unfold launchC
  simp only [up2_rr, u14_13]
theorem launch_14 (α : Mem) (a : Nat) (x1 x2 x3 x4 x5 x6 : Int32) : launchC α a x1 x2 x3 x4 x5 x6 a 14 = 0 := by
  unfold launchC
  simp only [up2_rr]
theorem Fs_launch (α : Mem) {i : Nat} (h : i < 8) (x1 x2 x3 x4 x5 x6 : Int32) : Fs α (launchC α (7 + i) x1 x2 x3 x4 x5 x6) := fun j q _ => launch_o α (fun w => q (by omega)) _ _ _ _ _ _
def addM (α : Mem) (n : Nat) (x1 x2 x3 x4 x5 x6 : Int32) : Mem := up2 (launchC α (7 + n) x1 x2 x3 x4 x5 x6) 4 5 (J (n + 1))
def addC (α : Mem) (n : Nat) (x1 x2 x3 x4 x5 x6 : Int32) : Mem := readyC (addM α n x1 x2 x3 x4 x5 x6) (7 + n)
theorem addM_4 (α : Mem) (n : Nat) (x1 x2 x3 x4 x5 x6 : Int32) {m : Nat} (h : m ≠ 5) : addM α n x1 x2 x3 x4 x5 x6 4 m = α 4 m := by
  unfold addM; rw [up2_a, if_neg h, launch_o _ (by omega)]
theorem addM_5 (α : Mem) (n : Nat) (x1 x2 x3 x4 x5 x6 : Int32) : addM α n x1 x2 x3 x4 x5 x6 5 = α 5 := by
  unfold addM; rw [up2_ne _ (by decide), launch_o _ (by omega)]
theorem addM_o (α : Mem) (n : Nat) (x1 x2 x3 x4 x5 x6 : Int32) {i : Nat} (h : i ≠ n) : addM α n x1 x2 x3 x4 x5 x6 (7 + i) = α (7 + i) := by
  unfold addM; rw [up2_ne _ (by omega), launch_o _ (by omega)]
theorem addM_n (α : Mem) (n : Nat) (x1 x2 x3 x4 x5 x6 : Int32) : addM α n x1 x2 x3 x4 x5 x6 (7 + n) = launchC α (7 + n) x1 x2 x3 x4 x5 x6 (7 + n) := by
  unfold addM; rw [up2_ne _ (by omega)]
theorem Ok_addM {α : Mem} {n : Nat} (H : Ok α n) (hn : n < 8) {x1 x2 x3 x4 x5 x6 : Int32} (hg : givC x1 x3 x4 x5 x6) (hc : isCellC α 4 x2) : Ok (addM α n x1 x2 x3 x4 x5 x6) (n + 1) := by
  obtain ⟨⟨a1, a2⟩, ⟨b1, b2⟩, ⟨c1, c2⟩, ⟨d1, d2⟩, ⟨e1, e2⟩⟩ := hg
  have t60 : (60 : Int32).toInt = 60 := rfl
  have t5 : (5 : Int32).toInt = 5 := rfl
  have hw := H.wh
  have h1 := hc.1; have h2 := hc.2.1
  rw [i32_le, ti0] at h1; rw [i32_lt, hw.1] at h2
  rw [i32_lt, ti0] at a1 b1 d1
  rw [i32_lt, ti1] at a2 c1 e1
  rw [i32_lt, t5] at b2
  rw [i32_lt, t60] at c2 e2
  rw [i32_lt, ti12] at d2
  have hs : x1 = 0 ∨ x1 = 1 := by rw [i32_eq, i32_eq, ti0, ti1]; omega
  obtain ⟨e, he, eh⟩ := J_rng (v := x3) (k := 6) (by omega) (by omega)
  have g4 : ∀ m, m ≠ 5 → addM α n x1 x2 x3 x4 x5 x6 4 m = α 4 m := fun m hm => addM_4 α n x1 x2 x3 x4 x5 x6 hm
  have g45 : addM α n x1 x2 x3 x4 x5 x6 4 5 = J (n + 1) := by unfold addM; rw [up2_rr]
  unfold Ok
  rw [g4 0 (by decide), g4 1 (by decide), g4 2 (by decide), g4 3 (by decide), g45, addM_5]
  refine ⟨H.cols, H.rows, H.wd, H.ws, by omega, rfl, H.rk, ?_, ?_, ?_, ?_, ?_, ?_, ?_, ?_, ?_, ?_, ?_, ?_, ?_, ?_, ?_⟩
  · intro i hi
    by_cases q : i = n
    · subst q; rw [addM_n, launch_0]; exact hs
    · rw [addM_o _ _ _ _ _ _ _ _ q]; exact H.side i (by omega)
  · intro i hi
    by_cases q : i = n
    · subst q; rw [addM_n, launch_1]; exact ⟨by omega, by omega⟩
    · rw [addM_o _ _ _ _ _ _ _ _ q]; exact H.cell i (by omega)
  · intro i hi
    by_cases q : i = n
    · subst q; rw [addM_n, launch_2]; exact ⟨e, he, eh⟩
    · rw [addM_o _ _ _ _ _ _ _ _ q]; exact H.head i (by omega)
  · intro i hi
    by_cases q : i = n
    · subst q; rw [addM_n, launch_3]; exact ⟨by omega, by omega⟩
    · rw [addM_o _ _ _ _ _ _ _ _ q]; exact H.hull i (by omega)
  · intro i hi
    by_cases q : i = n
    · subst q; rw [addM_n, launch_4]; exact ⟨by decide, by decide⟩
    · rw [addM_o _ _ _ _ _ _ _ _ q]; exact H.sails i (by omega)
  · intro i hi
    by_cases q : i = n
    · subst q; rw [addM_n, launch_5]; exact ⟨by omega, by omega⟩
    · rw [addM_o _ _ _ _ _ _ _ _ q]; exact H.gl i (by omega)
  · intro i hi
    by_cases q : i = n
    · subst q; rw [addM_n, launch_6]; exact ⟨by omega, by omega⟩
    · rw [addM_o _ _ _ _ _ _ _ _ q]; exact H.gr i (by omega)
  · intro i hi
    by_cases q : i = n
    · subst q; rw [addM_n, launch_7]; exact ⟨by omega, by omega⟩
    · rw [addM_o _ _ _ _ _ _ _ _ q]; exact H.crew i (by omega)
  · intro i hi
    by_cases q : i = n
    · subst q; rw [addM_n, launch_8]; exact ⟨by omega, by omega⟩
    · rw [addM_o _ _ _ _ _ _ _ _ q]; exact H.first i (by omega)
  · intro i hi
    by_cases q : i = n
    · subst q; rw [addM_n, launch_9]; exact ⟨by decide, by decide⟩
    · rw [addM_o _ _ _ _ _ _ _ _ q]; exact H.pts i (by omega)
  · intro i hi
    by_cases q : i = n
    · subst q; rw [addM_n, launch_10]; exact ⟨by decide, by decide⟩
    · rw [addM_o _ _ _ _ _ _ _ _ q]; exact H.wl i (by omega)
  · intro i hi
    by_cases q : i = n
    · subst q; rw [addM_n, launch_11]; exact ⟨by decide, by decide⟩
    · rw [addM_o _ _ _ _ _ _ _ _ q]; exact H.wr i (by omega)
  · intro i hi
    by_cases q : i = n
    · subst q; rw [addM_n, launch_12]; exact Or.inl rfl
    · rw [addM_o _ _ _ _ _ _ _ _ q]; exact by rcases H.part i (by omega) with w | ⟨j, j1, j2, j3⟩; exact Or.inl w; exact Or.inr ⟨j, by omega, j2, j3⟩
  · intro i hi
    by_cases q : i = n
    · subst q; rw [addM_n, launch_13]; exact Or.inl rfl
    · rw [addM_o _ _ _ _ _ _ _ _ q]; exact H.bo i (by omega)
  · intro i hi
    by_cases q : i = n
    · subst q; rw [addM_n, launch_14]; exact Or.inl rfl
    · rw [addM_o _ _ _ _ _ _ _ _ q]; exact H.way i (by omega)
theorem Dj_addM {α : Mem} {n : Nat} (D : Dj α n) (hn : n < 8) {x1 x2 x3 x4 x5 x6 : Int32} (hf : shipOnF α x2 n 0 = -1) : Dj (addM α n x1 x2 x3 x4 x5 x6) (n + 1) := by
  have hno := shipOn_no n 0 (by omega) hf
  intro i j hi hj hij h1 h2
  by_cases q : i = n
  · subst q
    have q2 : j ≠ i := fun w => hij w.symm
    rw [addM_n, launch_1, addM_o _ _ _ _ _ _ _ _ q2]
    rw [addM_o _ _ _ _ _ _ _ _ q2] at h2
    exact fun w => hno j (by omega) (by omega) h2 w.symm
  · rw [addM_o _ _ _ _ _ _ _ _ q] at h1 ⊢
    by_cases q2 : j = n
    · subst q2
      rw [addM_n, launch_1]
      exact hno i (by omega) (by omega) h1
    · rw [addM_o _ _ _ _ _ _ _ _ q2] at h2 ⊢
      exact D i j (by omega) (by omega) hij h1 h2
theorem Dj_ready {α : Mem} {n : Nat} (D : Dj α n) (a : Nat) : Dj (readyC α a) n := by
  unfold readyC
  exact Dj_up (Dj_up (Dj_up D (by decide)) (by decide)) (by decide)
theorem mh86 : mHh 86 = [] := rfl
theorem side_iff (x : Int32) : sideC x ↔ (¬ x < 0 ∧ ¬ 1 < x) := by
  unfold sideC
  rw [i32_eq, i32_eq, i32_lt, i32_lt, ti0, ti1]; omega
section S59
variable {z : Zr} {α β γ : Mem} {π : Nat → Nat} {η : Int64} {o : Nat → Int64} {od : Nat → UInt64} {n l k : Nat} {x1 x2 x3 x4 x5 x6 : Int32}
theorem s86 (H : Ok α n) (hp : seas π) (hk : α 15 1 = J k) (h4 : k ≤ 4) (hn : n < 8) (hg : givC x1 x3 x4 x5 x6) (hf : freeC α n x2) : Run 86 0 [some (.ref (3)), some (.int (x1)), some (.int (x2)), some (.int (x3)), some (.int (x4)), some (.int (x5)), some (.int (x6)), none, none] [] (HC z α π β η o od) = some (.inl (some (.int (J n))), (HC z (addC (saveC α π n k) n x1 x2 x3 x4 x5 x6) (saveP π k) β η o od)) := by
  have h8 := H.n8
  have sq : Sq α (saveC α π n k) := fun j q w => save_sq hp h4 h8 q w
  have H1 := Ok_sm (Sm_of h8 sq) H
  have hs := s30 (z := z) (β := β) (η := η) (o := o) (od := od) H hp hk h4
  have hm : Run 71 0 [some (.ref (7 + n)), some (.int (x1)), some (.int (x2)), some (.int (x3)), some (.int (x4)), some (.int (x5)), some (.int (x6))] [] (HC z (saveC α π n k) (saveP π k) β η o od) = _ := s71 (kd_ship hn) x1 x2 x3 x4 x5 x6
  have HM := Ok_addM H1 hn hg (by rw [cell_sq sq]; exact hf.1)
  have hr : Run 23 0 [some (.ref (61)), some (.ref (7 + n)), none] [] (HC z (addM (saveC α π n k) n x1 x2 x3 x4 x5 x6) (saveP π k) β η o od) = _ := s23 HM (by omega)
  unfold addM at hr
  have n5 : launchC (saveC α π n k) (7 + n) x1 x2 x3 x4 x5 x6 4 = saveC α π n k 4 := launch_o _ (by omega) ..
  have s1 := (side_iff x1).mpr hg.1
  obtain ⟨-, g2, ⟨g3, g4⟩, ⟨g5, g6⟩, ⟨g7, g8⟩⟩ := hg
  unfold addC addM
  simp only [↓reduceIte, e86_0, e86_1, e86_2, e86_5, e86_6, e86_9, e86_12, e86_13, e86_16, e86_19, e86_29, e86_31, e86_32, e86_35, e86_37, e86_39, e86_42, e86_44, e86_47, e86_49, e86_51, e86_54, e86_56, e86_57, e86_60, e86_62, e86_64, e86_67, e86_77, e86_78, e86_81, e86_84, e86_86, e86_89, e86_90, e86_93, e86_94, e86_97, e86_100, e86_110, e86_111, e86_114, e86_115, e86_118, e86_121, e86_122, e86_125, e86_128, e86_130, e86_131, e86_134, e86_137, e86_139, e86_140, e86_142, e86_144, e86_145, e86_146, e86_147, e86_149, e86_151, e86_153, e86_156, e86_157, e86_160, e86_162, e86_163, e86_164, e86_167, e86_168, e86_171, e86_173, e86_176, e86_178, isO3, s110 _ hf.1, s113, bi_t s1, s114, bi_t g2, g3, g4, g5, g6, g7, g8, le_not, gf8_0 kd3, gf8_1 kd3, gf8_2 kd3, gf6_5 kd4, gf6_7 kd4, H.hn, H1.hn, (show (8 : Int32) = J 8 from rfl), J_lt (show n < 2147483648 by omega) (show 8 < 2147483648 by omega), hn, isO4, isO15, isO61, isS hn, s51 H, bi_t hf, i1_0, hs, gaR21 kd6 (inB_J hn (by omega)), J_tn (show n < 2147483648 by omega), hm, J_succ, pf6_5 kd4, hr, aft_v, aft_n, Option.bind_some, rf_some, ck_i, ck_r, ck_n, nb0, nb1, nbi, Nat.reduceAdd, if_true, if_false, not_false_eq_true, not_true_eq_false]
theorem s86n (h : ¬ isCellC α 4 x2) : Run 86 0 [some (.ref (3)), some (.int (x1)), some (.int (x2)), some (.int (x3)), some (.int (x4)), some (.int (x5)), some (.int (x6)), none, none] [] (HC z α π β η o od) = some (.inr "java/lang/IndexOutOfBoundsException", HC (zb z) α π β η o od) := by
  simp only [↓reduceIte, e86_0, e86_1, e86_2, e86_5, e86_6, e86_9, e86_12, e86_13, e86_16, e86_19, e86_29, e86_31, e86_32, e86_35, e86_37, e86_39, e86_42, e86_44, e86_47, e86_49, e86_51, e86_54, e86_56, e86_57, e86_60, e86_62, e86_64, e86_67, e86_77, e86_78, e86_81, e86_84, e86_86, e86_89, e86_90, e86_93, e86_94, e86_97, e86_100, e86_110, e86_111, e86_114, e86_115, e86_118, e86_121, e86_122, e86_125, e86_128, e86_130, e86_131, e86_134, e86_137, e86_139, e86_140, e86_142, e86_144, e86_145, e86_146, e86_147, e86_149, e86_151, e86_153, e86_156, e86_157, e86_160, e86_162, e86_163, e86_164, e86_167, e86_168, e86_171, e86_173, e86_176, e86_178, isO3, s110n _ h, aft_x mh86, aft_v, aft_n, Option.bind_some, rf_some, ck_i, ck_r, ck_n, nb0, nb1, nbi, Nat.reduceAdd, if_true, if_false, not_false_eq_true, not_true_eq_false]
theorem s86m (hc : isCellC α 4 x2) (h : ¬ givC x1 x3 x4 x5 x6) : Run 86 0 [some (.ref (3)), some (.int (x1)), some (.int (x2)), some (.int (x3)), some (.int (x4)), some (.int (x5)), some (.int (x6)), none, none] [] (HC z α π β η o od) = some (.inr "java/lang/IllegalArgumentException", HC (zb z) α π β η o od) := by
  by_cases q1 : sideC x1
  · by_cases q2 : dirC x3
    · by_cases q3 : x4 < 1
      · simp only [↓reduceIte, e86_0, e86_1, e86_2, e86_5, e86_6, e86_9, e86_12, e86_13, e86_16, e86_19, e86_29, e86_31, e86_32, e86_35, e86_37, e86_39, e86_42, e86_44, e86_47, e86_49, e86_51, e86_54, e86_56, e86_57, e86_60, e86_62, e86_64, e86_67, e86_77, e86_78, e86_81, e86_84, e86_86, e86_89, e86_90, e86_93, e86_94, e86_97, e86_100, e86_110, e86_111, e86_114, e86_115, e86_118, e86_121, e86_122, e86_125, e86_128, e86_130, e86_131, e86_134, e86_137, e86_139, e86_140, e86_142, e86_144, e86_145, e86_146, e86_147, e86_149, e86_151, e86_153, e86_156, e86_157, e86_160, e86_162, e86_163, e86_164, e86_167, e86_168, e86_171, e86_173, e86_176, e86_178, isO3, s110 _ hc, s113, bi_t q1, s114, bi_t q2, i1_0, q3, hb_HC, aft_v, aft_n, Option.bind_some, rf_some, ck_i, ck_r, ck_n, nb0, nb1, nbi, Nat.reduceAdd, if_true, if_false, not_false_eq_true, not_true_eq_false]
      by_cases q4 : 60 < x4
      · simp only [↓reduceIte, e86_0, e86_1, e86_2, e86_5, e86_6, e86_9, e86_12, e86_13, e86_16, e86_19, e86_29, e86_31, e86_32, e86_35, e86_37, e86_39, e86_42, e86_44, e86_47, e86_49, e86_51, e86_54, e86_56, e86_57, e86_60, e86_62, e86_64, e86_67, e86_77, e86_78, e86_81, e86_84, e86_86, e86_89, e86_90, e86_93, e86_94, e86_97, e86_100, e86_110, e86_111, e86_114, e86_115, e86_118, e86_121, e86_122, e86_125, e86_128, e86_130, e86_131, e86_134, e86_137, e86_139, e86_140, e86_142, e86_144, e86_145, e86_146, e86_147, e86_149, e86_151, e86_153, e86_156, e86_157, e86_160, e86_162, e86_163, e86_164, e86_167, e86_168, e86_171, e86_173, e86_176, e86_178, isO3, s110 _ hc, s113, bi_t q1, s114, bi_t q2, i1_0, q3, q4, hb_HC, aft_v, aft_n, Option.bind_some, rf_some, ck_i, ck_r, ck_n, nb0, nb1, nbi, Nat.reduceAdd, if_true, if_false, not_false_eq_true, not_true_eq_false]
      by_cases q5 : x5 < 0
      · simp only [↓reduceIte, e86_0, e86_1, e86_2, e86_5, e86_6, e86_9, e86_12, e86_13, e86_16, e86_19, e86_29, e86_31, e86_32, e86_35, e86_37, e86_39, e86_42, e86_44, e86_47, e86_49, e86_51, e86_54, e86_56, e86_57, e86_60, e86_62, e86_64, e86_67, e86_77, e86_78, e86_81, e86_84, e86_86, e86_89, e86_90, e86_93, e86_94, e86_97, e86_100, e86_110, e86_111, e86_114, e86_115, e86_118, e86_121, e86_122, e86_125, e86_128, e86_130, e86_131, e86_134, e86_137, e86_139, e86_140, e86_142, e86_144, e86_145, e86_146, e86_147, e86_149, e86_151, e86_153, e86_156, e86_157, e86_160, e86_162, e86_163, e86_164, e86_167, e86_168, e86_171, e86_173, e86_176, e86_178, isO3, s110 _ hc, s113, bi_t q1, s114, bi_t q2, i1_0, q3, q4, q5, hb_HC, aft_v, aft_n, Option.bind_some, rf_some, ck_i, ck_r, ck_n, nb0, nb1, nbi, Nat.reduceAdd, if_true, if_false, not_false_eq_true, not_true_eq_false]
      by_cases q6 : 12 < x5
      · simp only [↓reduceIte, e86_0, e86_1, e86_2, e86_5, e86_6, e86_9, e86_12, e86_13, e86_16, e86_19, e86_29, e86_31, e86_32, e86_35, e86_37, e86_39, e86_42, e86_44, e86_47, e86_49, e86_51, e86_54, e86_56, e86_57, e86_60, e86_62, e86_64, e86_67, e86_77, e86_78, e86_81, e86_84, e86_86, e86_89, e86_90, e86_93, e86_94, e86_97, e86_100, e86_110, e86_111, e86_114, e86_115, e86_118, e86_121, e86_122, e86_125, e86_128, e86_130, e86_131, e86_134, e86_137, e86_139, e86_140, e86_142, e86_144, e86_145, e86_146, e86_147, e86_149, e86_151, e86_153, e86_156, e86_157, e86_160, e86_162, e86_163, e86_164, e86_167, e86_168, e86_171, e86_173, e86_176, e86_178, isO3, s110 _ hc, s113, bi_t q1, s114, bi_t q2, i1_0, q3, q4, q5, q6, hb_HC, aft_v, aft_n, Option.bind_some, rf_some, ck_i, ck_r, ck_n, nb0, nb1, nbi, Nat.reduceAdd, if_true, if_false, not_false_eq_true, not_true_eq_false]
      by_cases q7 : x6 < 1
      · simp only [↓reduceIte, e86_0, e86_1, e86_2, e86_5, e86_6, e86_9, e86_12, e86_13, e86_16, e86_19, e86_29, e86_31, e86_32, e86_35, e86_37, e86_39, e86_42, e86_44, e86_47, e86_49, e86_51, e86_54, e86_56, e86_57, e86_60, e86_62, e86_64, e86_67, e86_77, e86_78, e86_81, e86_84, e86_86, e86_89, e86_90, e86_93, e86_94, e86_97, e86_100, e86_110, e86_111, e86_114, e86_115, e86_118, e86_121, e86_122, e86_125, e86_128, e86_130, e86_131, e86_134, e86_137, e86_139, e86_140, e86_142, e86_144, e86_145, e86_146, e86_147, e86_149, e86_151, e86_153, e86_156, e86_157, e86_160, e86_162, e86_163, e86_164, e86_167, e86_168, e86_171, e86_173, e86_176, e86_178, isO3, s110 _ hc, s113, bi_t q1, s114, bi_t q2, i1_0, q3, q4, q5, q6, q7, hb_HC, aft_v, aft_n, Option.bind_some, rf_some, ck_i, ck_r, ck_n, nb0, nb1, nbi, Nat.reduceAdd, if_true, if_false, not_false_eq_true, not_true_eq_false]
      have q8 : 60 < x6 := by by_cases x : 60 < x6; exact x; exact absurd ⟨(side_iff x1).mp q1, q2, ⟨q3, q4⟩, ⟨q5, q6⟩, q7, x⟩ h
      simp only [↓reduceIte, e86_0, e86_1, e86_2, e86_5, e86_6, e86_9, e86_12, e86_13, e86_16, e86_19, e86_29, e86_31, e86_32, e86_35, e86_37, e86_39, e86_42, e86_44, e86_47, e86_49, e86_51, e86_54, e86_56, e86_57, e86_60, e86_62, e86_64, e86_67, e86_77, e86_78, e86_81, e86_84, e86_86, e86_89, e86_90, e86_93, e86_94, e86_97, e86_100, e86_110, e86_111, e86_114, e86_115, e86_118, e86_121, e86_122, e86_125, e86_128, e86_130, e86_131, e86_134, e86_137, e86_139, e86_140, e86_142, e86_144, e86_145, e86_146, e86_147, e86_149, e86_151, e86_153, e86_156, e86_157, e86_160, e86_162, e86_163, e86_164, e86_167, e86_168, e86_171, e86_173, e86_176, e86_178, isO3, s110 _ hc, s113, bi_t q1, s114, bi_t q2, i1_0, q3, q4, q5, q6, q7, q8, le_not, hb_HC, aft_v, aft_n, Option.bind_some, rf_some, ck_i, ck_r, ck_n, nb0, nb1, nbi, Nat.reduceAdd, if_true, if_false, not_false_eq_true, not_true_eq_false]
    · simp only [↓reduceIte, e86_0, e86_1, e86_2, e86_5, e86_6, e86_9, e86_12, e86_13, e86_16, e86_19, e86_29, e86_31, e86_32, e86_35, e86_37, e86_39, e86_42, e86_44, e86_47, e86_49, e86_51, e86_54, e86_56, e86_57, e86_60, e86_62, e86_64, e86_67, e86_77, e86_78, e86_81, e86_84, e86_86, e86_89, e86_90, e86_93, e86_94, e86_97, e86_100, e86_110, e86_111, e86_114, e86_115, e86_118, e86_121, e86_122, e86_125, e86_128, e86_130, e86_131, e86_134, e86_137, e86_139, e86_140, e86_142, e86_144, e86_145, e86_146, e86_147, e86_149, e86_151, e86_153, e86_156, e86_157, e86_160, e86_162, e86_163, e86_164, e86_167, e86_168, e86_171, e86_173, e86_176, e86_178, isO3, s110 _ hc, s113, bi_t q1, s114, bi_f q2, i1_0, hb_HC, aft_v, aft_n, Option.bind_some, rf_some, ck_i, ck_r, ck_n, nb0, nb1, nbi, Nat.reduceAdd, if_true, if_false, not_false_eq_true, not_true_eq_false]
  · simp only [↓reduceIte, e86_0, e86_1, e86_2, e86_5, e86_6, e86_9, e86_12, e86_13, e86_16, e86_19, e86_29, e86_31, e86_32, e86_35, e86_37, e86_39, e86_42, e86_44, e86_47, e86_49, e86_51, e86_54, e86_56, e86_57, e86_60, e86_62, e86_64, e86_67, e86_77, e86_78, e86_81, e86_84, e86_86, e86_89, e86_90, e86_93, e86_94, e86_97, e86_100, e86_110, e86_111, e86_114, e86_115, e86_118, e86_121, e86_122, e86_125, e86_128, e86_130, e86_131, e86_134, e86_137, e86_139, e86_140, e86_142, e86_144, e86_145, e86_146, e86_147, e86_149, e86_151, e86_153, e86_156, e86_157, e86_160, e86_162, e86_163, e86_164, e86_167, e86_168, e86_171, e86_173, e86_176, e86_178, isO3, s110 _ hc, s113, bi_f q1, hb_HC, aft_v, aft_n, Option.bind_some, rf_some, ck_i, ck_r, ck_n, nb0, nb1, nbi, Nat.reduceAdd, if_true, if_false, not_false_eq_true, not_true_eq_false]
theorem s86x (H : Ok α n) (hc : isCellC α 4 x2) (hg : givC x1 x3 x4 x5 x6) (h : ¬ (n < 8 ∧ freeC α n x2)) : Run 86 0 [some (.ref (3)), some (.int (x1)), some (.int (x2)), some (.int (x3)), some (.int (x4)), some (.int (x5)), some (.int (x6)), none, none] [] (HC z α π β η o od) = some (.inr "java/lang/IllegalStateException", HC (zb z) α π β η o od) := by
  have h8 := H.n8
  have s1 := (side_iff x1).mpr hg.1
  obtain ⟨-, g2, ⟨g3, g4⟩, ⟨g5, g6⟩, ⟨g7, g8⟩⟩ := hg
  by_cases q : n < 8
  · have q2 : ¬ freeC α n x2 := fun w => h ⟨q, w⟩
    simp only [↓reduceIte, e86_0, e86_1, e86_2, e86_5, e86_6, e86_9, e86_12, e86_13, e86_16, e86_19, e86_29, e86_31, e86_32, e86_35, e86_37, e86_39, e86_42, e86_44, e86_47, e86_49, e86_51, e86_54, e86_56, e86_57, e86_60, e86_62, e86_64, e86_67, e86_77, e86_78, e86_81, e86_84, e86_86, e86_89, e86_90, e86_93, e86_94, e86_97, e86_100, e86_110, e86_111, e86_114, e86_115, e86_118, e86_121, e86_122, e86_125, e86_128, e86_130, e86_131, e86_134, e86_137, e86_139, e86_140, e86_142, e86_144, e86_145, e86_146, e86_147, e86_149, e86_151, e86_153, e86_156, e86_157, e86_160, e86_162, e86_163, e86_164, e86_167, e86_168, e86_171, e86_173, e86_176, e86_178, isO3, s110 _ hc, s113, bi_t s1, s114, bi_t g2, g3, g4, g5, g6, g7, g8, le_not, gf8_0 kd3, gf6_5 kd4, H.hn, (show (8 : Int32) = J 8 from rfl), J_lt (show n < 2147483648 by omega) (show 8 < 2147483648 by omega), q, isO4, s51 H, bi_f q2, i1_0, hb_HC, aft_v, aft_n, Option.bind_some, rf_some, ck_i, ck_r, ck_n, nb0, nb1, nbi, Nat.reduceAdd, if_true, if_false, not_false_eq_true, not_true_eq_false]
  · simp only [↓reduceIte, e86_0, e86_1, e86_2, e86_5, e86_6, e86_9, e86_12, e86_13, e86_16, e86_19, e86_29, e86_31, e86_32, e86_35, e86_37, e86_39, e86_42, e86_44, e86_47, e86_49, e86_51, e86_54, e86_56, e86_57, e86_60, e86_62, e86_64, e86_67, e86_77, e86_78, e86_81, e86_84, e86_86, e86_89, e86_90, e86_93, e86_94, e86_97, e86_100, e86_110, e86_111, e86_114, e86_115, e86_118, e86_121, e86_122, e86_125, e86_128, e86_130, e86_131, e86_134, e86_137, e86_139, e86_140, e86_142, e86_144, e86_145, e86_146, e86_147, e86_149, e86_151, e86_153, e86_156, e86_157, e86_160, e86_162, e86_163, e86_164, e86_167, e86_168, e86_171, e86_173, e86_176, e86_178, isO3, s110 _ hc, s113, bi_t s1, s114, bi_t g2, g3, g4, g5, g6, g7, g8, le_not, gf8_0 kd3, gf6_5 kd4, H.hn, (show (8 : Int32) = J 8 from rfl), J_lt (show n < 2147483648 by omega) (show 8 < 2147483648 by omega), q, i1_0, hb_HC, aft_v, aft_n, Option.bind_some, rf_some, ck_i, ck_r, ck_n, nb0, nb1, nbi, Nat.reduceAdd, if_true, if_false, not_false_eq_true, not_true_eq_false]
end S59
section S59m
variable {z : Zr} {α β γ : Mem} {π : Nat → Nat} {η : Int64} {o : Nat → Int64} {od : Nat → UInt64} {β' : Mem} {n l k : Nat} {x1 x2 x3 x4 x5 x6 : Int32}
theorem t125 {i k : Nat} (hi : i < 8) (hk : k < 15) : Run 125 0 [some (.ref (70)), some (.int (J i)), some (.int (J k))] [] (HC z γ π β η o od) = some (.inl (some (.int (β 71 (6 + 15 * i + k)))), (HC z γ π β η o od)) := by
  simp only [↓reduceIte, e125_0, e125_1, e125_4, e125_6, e125_8, e125_9, e125_10, e125_11, e125_12, e125_13, e125_14, gf9_0 kd_70, J_idx, gaI41 kd_71 (in71 hi hk), J_tn (show 6 + 15 * i + k < 2147483648 by omega), aft_v, aft_n, Option.bind_some, rf_some, ck_i, ck_r, ck_n, nb0, nb1, nbi, Nat.reduceAdd, if_true, if_false, not_false_eq_true, not_true_eq_false]
theorem t144 {i h b : Nat} (hi : i < 8) (hh : h < 6) (hb : b < 6) (e2 : β 71 (6 + 15 * i + 2) = J h) : Run 144 0 [some (.ref (70)), some (.int (J i)), some (.int (J b)), none, none] [] (HC z γ π β η o od) = some (.inl (some (.int ((J (facN (angN h b)) * β 71 3 * β 71 (6 + 15 * i + 4) + 19) / 20))), (HC z γ π β η o od)) := by
  have h3 := ang_le _ hh b hb
  have g2 : Run 125 0 [some (.ref (70)), some (.int (J i)), some (.int (2))] [] (HC z γ π β η o od) = some (.inl (some (.int (J h))), (HC z γ π β η o od)) := by rw [← e2]; exact t125 hi (k := 2) (by decide)
  have g4 : Run 125 0 [some (.ref (70)), some (.int (J i)), some (.int (4))] [] (HC z γ π β η o od) = some (.inl (some (.int (β 71 (6 + 15 * i + 4)))), (HC z γ π β η o od)) := t125 hi (k := 4) (by decide)
  have r3 : gaI (HC z γ π β η o od) 71 3 = some (β 71 3) := gaI41 kd_71 (in71h (k := 3) (by decide))
  have e : Run 143 0 [some (.int (J h)), some (.int (J b)), none] [] (HC z γ π β η o od) = _ := s143 hh hb
  have h : angN h b = 0 ∨ angN h b = 1 ∨ angN h b = 2 ∨ angN h b = 3 := by omega
  rcases h with h | h | h | h
  all_goals (rw [h] at e ⊢; simp only [↓reduceIte, e144_0, e144_1, e144_2, e144_3, e144_6, e144_7, e144_10, e144_11, e144_12, e144_15, e144_16, e144_19, e144_20, e144_21, e144_24, e144_25, e144_28, e144_29, e144_30, e144_33, e144_34, e144_37, e144_38, e144_40, e144_42, e144_43, e144_46, e144_47, e144_48, e144_49, e144_50, e144_51, e144_52, e144_55, e144_56, e144_58, e144_59, e144_61, e144_62, gf9_0 kd_70, isO70, g2, g4, e, r3, show (J 0 : Int32) = 0 from rfl, show (J 1 : Int32) = 1 from rfl, show (J 2 : Int32) = 2 from rfl, show (J 3 : Int32) = 3 from rfl, facN, q20, ln0_1, ln0_2, ln0_3, ln0_4, ln0_5, ln1_0, ln1_2, ln1_3, ln1_4, ln1_5, ln2_0, ln2_1, ln2_3, ln2_4, ln2_5, ln3_0, ln3_1, ln3_2, ln3_4, ln3_5, ln4_0, ln4_1, ln4_2, ln4_3, ln4_5, ln5_0, ln5_1, ln5_2, ln5_3, ln5_4, aft_v, aft_n, Option.bind_some, rf_some, ck_i, ck_r, ck_n, nb0, nb1, nbi, Nat.reduceAdd, if_true, if_false, not_false_eq_true, not_true_eq_false])
def addP (β : Mem) (n : Nat) (v : Int32) : Mem := up2 (up2 (up2 β 71 (6 + 15 * n + 8) v) 71 (6 + 15 * n + 13) 0) 71 (6 + 15 * n + 14) 0
theorem t146 {i h b : Nat} (hi : i < 8) (hh : h < 6) (hb : b < 6) (e2 : β 71 (6 + 15 * i + 2) = J h) (e4 : β 71 (6 + 15 * i + 4) = 20) (ew : β 71 2 = J b) (hs : 0 ≤ ((J (facN (angN h b)) * β 71 3 * 20 + 19) / 20).toInt) : Run 146 0 [some (.ref (70)), some (.int (J i)), none] [] (HC z γ π β η o od) = some (.inl none, (HC z γ π (addP β i (mxC 1 ((J (facN (angN h b)) * β 71 3 * 20 + 19) / 20))) η o od)) := by
  have g4 : Run 125 0 [some (.ref (70)), some (.int (J i)), some (.int (4))] [] (HC z γ π β η o od) = some (.inl (some (.int (20))), (HC z γ π β η o od)) := by rw [← e4]; exact t125 hi (k := 4) (by decide)
  have r2 : gaI (HC z γ π β η o od) 71 2 = some (J b) := by rw [← ew]; exact gaI41 kd_71 (in71h (k := 2) (by decide))
  have g := t144 (z := z) (γ := γ) (π := π) (η := η) (o := o) (od := od) hi hh hb e2
  rw [e4] at g
  generalize (J (facN (angN h b)) * β 71 3 * 20 + 19) / 20 = v at hs g ⊢
  have hv : mxC 1 v = if v = 0 then 1 else v := by
    rw [i32_eq, mx_ti, ti1]
    by_cases w : v = 0
    · rw [if_pos w, w, ti0, if_neg (by decide)]; rfl
    · rw [if_neg w]
      rw [i32_eq, ti0] at w
      split <;> omega
  unfold addP
  rw [hv]
  have l20 : ((20 : Int32) ≤ 0) = False := eq_false (by decide)
  by_cases q : v = 0 <;> simp only [↓reduceIte, e146_0, e146_1, e146_2, e146_5, e146_6, e146_7, e146_8, e146_10, e146_11, e146_14, e146_15, e146_16, e146_17, e146_20, e146_23, e146_24, e146_27, e146_28, e146_31, e146_32, e146_33, e146_35, e146_36, e146_39, e146_40, e146_41, e146_43, e146_44, e146_47, e145_0, e145_1, e145_2, e145_3, e145_6, e145_7, e145_8, e145_11, gf9_0 kd_70, isO70, r2, g, g4, q, l20, s126_8 hi, s126_13 hi, s126_14 hi, aft_v, aft_n, Option.bind_some, rf_some, ck_i, ck_r, ck_n, nb0, nb1, nbi, Nat.reduceAdd, if_true, if_false, not_false_eq_true, not_true_eq_false]
def putB (B : Mem) (n : Nat) (x1 x2 x3 x4 x5 x6 : Int32) : Mem := (up2 (up2 (up2 (up2 (up2 (up2 (up2 (up2 (up2 (up2 (up2 (up2 (up2 B 71 5 (J (n + 1))) 71 (6 + 15 * n + 0) x1) 71 (6 + 15 * n + 1) x2) 71 (6 + 15 * n + 2) x3) 71 (6 + 15 * n + 3) x4) 71 (6 + 15 * n + 4) 20) 71 (6 + 15 * n + 5) x5) 71 (6 + 15 * n + 6) x5) 71 (6 + 15 * n + 7) x6) 71 (6 + 15 * n + 12) x6) 71 (6 + 15 * n + 9) 0) 71 (6 + 15 * n + 10) 0) 71 (6 + 15 * n + 11) (-1))
theorem s148 (H : Ok α n) (R : Rm (β 71) α n) (hk : β 70 2 = J k) (h4 : k ≤ 4) (hn : n < 8) (hg : givC x1 x3 x4 x5 x6) (hf : freeC α n x2) (hm : Run 146 0 [some (.ref (70)), some (.int (J n)), none] [] (HC z γ π (putB (keepB (up2 β 70 5 0) k) n x1 x2 x3 x4 x5 x6) η o od) = some (.inl none, HC z γ π β' η o od)) : Run 148 0 [some (.ref (70)), some (.int (x1)), some (.int (x2)), some (.int (x3)), some (.int (x4)), some (.int (x5)), some (.int (x6)), none] [] (HC z γ π β η o od) = some (.inl (some (.int (J n))), (HC z γ π β' η o od)) := by
  have hs := kept (z := z) (γ := γ) (π := π) (η := η) (o := o) (od := od) hk h4 0
  have p5 : ∀ (β' : Mem) v, paI (HC z γ π β' η o od) 71 5 v = some (HC z γ π (up2 β' 71 5 v) η o od) := fun β' v => paI41 kd_71 (in71h (k := 5) (by decide))
  unfold putB at hm
  have n8 : (J n = 8) = False := eq_false (by rw [show (8 : Int32) = J 8 from rfl, J_eq (by omega) (by omega)]; omega)
  simp only [↓reduceIte, e148_0, e148_1, e148_2, e148_3, e148_6, e148_9, e148_10, e148_13, e148_14, e148_15, e148_16, e148_18, e148_20, e148_22, e148_25, e148_28, e148_29, e148_32, e148_33, e148_36, e148_37, e148_38, e148_40, e148_43, e148_44, e148_45, e148_48, e148_51, e148_52, e148_55, e148_56, e148_59, e148_60, e148_63, e148_66, e148_67, e148_68, e148_69, e148_72, e148_73, e148_76, e148_77, e148_78, e148_80, e148_81, e148_84, e148_85, e148_86, e148_87, e148_88, e148_89, e148_90, e148_91, e148_93, e148_94, e148_95, e148_98, e148_99, e148_101, e148_102, e148_103, e148_106, e148_107, e148_109, e148_110, e148_111, e148_114, e148_115, e148_117, e148_118, e148_120, e148_123, e148_124, e148_126, e148_127, e148_129, e148_132, e148_133, e148_135, e148_136, e148_138, e148_141, e148_142, e148_144, e148_146, e148_148, e148_151, e148_152, e148_154, e148_156, e148_158, e148_161, e148_162, e148_164, e148_166, e148_168, e148_171, e148_172, e148_174, e148_176, e148_177, e148_180, e148_181, e148_183, e148_185, e148_186, e148_189, e148_190, e148_192, e148_194, e148_195, e148_198, e148_199, e148_201, e148_204, e148_206, isO70, s123 H R, bi_t hf.1, s147, bi_t hg, gf9_0 kd_70, m71_5 R, m71_5 (Rm_keep R k 0), H.hn, n8, s133 H R (Or.inr hf.1), bi_t hf, i1_0, pf9_5 kd_70, gf9_5 kd_70, up2_rr, hs, J_succ, p5, s126_0 hn, s126_1 hn, s126_2 hn, s126_3 hn, s126_4 hn, s126_5 hn, s126_6 hn, s126_7 hn, s126_12 hn, s126_9 hn, s126_10 hn, s126_11 hn, hm, aft_v, aft_n, Option.bind_some, rf_some, ck_i, ck_r, ck_n, nb0, nb1, nbi, Nat.reduceAdd, if_true, if_false, not_false_eq_true, not_true_eq_false]
theorem s148n (H : Ok α n) (R : Rm (β 71) α n) (h : ¬ isCellC α 4 x2) : Run 148 0 [some (.ref (70)), some (.int (x1)), some (.int (x2)), some (.int (x3)), some (.int (x4)), some (.int (x5)), some (.int (x6)), none] [] (HC z γ π β η o od) = some (.inl (some (.int (0))), (HC z γ π (up2 β 70 5 1) η o od)) := by
  simp only [↓reduceIte, e148_0, e148_1, e148_2, e148_3, e148_6, e148_9, e148_10, e148_13, e148_14, e148_15, e148_16, e148_18, e148_20, e148_22, e148_25, e148_28, e148_29, e148_32, e148_33, e148_36, e148_37, e148_38, e148_40, e148_43, e148_44, e148_45, e148_48, e148_51, e148_52, e148_55, e148_56, e148_59, e148_60, e148_63, e148_66, e148_67, e148_68, e148_69, e148_72, e148_73, e148_76, e148_77, e148_78, e148_80, e148_81, e148_84, e148_85, e148_86, e148_87, e148_88, e148_89, e148_90, e148_91, e148_93, e148_94, e148_95, e148_98, e148_99, e148_101, e148_102, e148_103, e148_106, e148_107, e148_109, e148_110, e148_111, e148_114, e148_115, e148_117, e148_118, e148_120, e148_123, e148_124, e148_126, e148_127, e148_129, e148_132, e148_133, e148_135, e148_136, e148_138, e148_141, e148_142, e148_144, e148_146, e148_148, e148_151, e148_152, e148_154, e148_156, e148_158, e148_161, e148_162, e148_164, e148_166, e148_168, e148_171, e148_172, e148_174, e148_176, e148_177, e148_180, e148_181, e148_183, e148_185, e148_186, e148_189, e148_190, e148_192, e148_194, e148_195, e148_198, e148_199, e148_201, e148_204, e148_206, isO70, s123 H R, bi_f h, i1_0, pf9_5 kd_70, gf9_5 kd_70, up2_rr, aft_v, aft_n, Option.bind_some, rf_some, ck_i, ck_r, ck_n, nb0, nb1, nbi, Nat.reduceAdd, if_true, if_false, not_false_eq_true, not_true_eq_false]
theorem s148m (H : Ok α n) (R : Rm (β 71) α n) (h : isCellC α 4 x2) (hg : ¬ givC x1 x3 x4 x5 x6) : Run 148 0 [some (.ref (70)), some (.int (x1)), some (.int (x2)), some (.int (x3)), some (.int (x4)), some (.int (x5)), some (.int (x6)), none] [] (HC z γ π β η o od) = some (.inl (some (.int (0))), (HC z γ π (up2 β 70 5 2) η o od)) := by
  simp only [↓reduceIte, e148_0, e148_1, e148_2, e148_3, e148_6, e148_9, e148_10, e148_13, e148_14, e148_15, e148_16, e148_18, e148_20, e148_22, e148_25, e148_28, e148_29, e148_32, e148_33, e148_36, e148_37, e148_38, e148_40, e148_43, e148_44, e148_45, e148_48, e148_51, e148_52, e148_55, e148_56, e148_59, e148_60, e148_63, e148_66, e148_67, e148_68, e148_69, e148_72, e148_73, e148_76, e148_77, e148_78, e148_80, e148_81, e148_84, e148_85, e148_86, e148_87, e148_88, e148_89, e148_90, e148_91, e148_93, e148_94, e148_95, e148_98, e148_99, e148_101, e148_102, e148_103, e148_106, e148_107, e148_109, e148_110, e148_111, e148_114, e148_115, e148_117, e148_118, e148_120, e148_123, e148_124, e148_126, e148_127, e148_129, e148_132, e148_133, e148_135, e148_136, e148_138, e148_141, e148_142, e148_144, e148_146, e148_148, e148_151, e148_152, e148_154, e148_156, e148_158, e148_161, e148_162, e148_164, e148_166, e148_168, e148_171, e148_172, e148_174, e148_176, e148_177, e148_180, e148_181, e148_183, e148_185, e148_186, e148_189, e148_190, e148_192, e148_194, e148_195, e148_198, e148_199, e148_201, e148_204, e148_206, isO70, s123 H R, bi_t h, s147, bi_f hg, i1_0, ln2_0, pf9_5 kd_70, gf9_5 kd_70, up2_rr, aft_v, aft_n, Option.bind_some, rf_some, ck_i, ck_r, ck_n, nb0, nb1, nbi, Nat.reduceAdd, if_true, if_false, not_false_eq_true, not_true_eq_false]
theorem s148x (H : Ok α n) (R : Rm (β 71) α n) (hc : isCellC α 4 x2) (hg : givC x1 x3 x4 x5 x6) (h : ¬ (n < 8 ∧ freeC α n x2)) : Run 148 0 [some (.ref (70)), some (.int (x1)), some (.int (x2)), some (.int (x3)), some (.int (x4)), some (.int (x5)), some (.int (x6)), none] [] (HC z γ π β η o od) = some (.inl (some (.int (0))), (HC z γ π (up2 β 70 5 3) η o od)) := by
  have h8 := H.n8
  by_cases q : n < 8
  · have q2 : ¬ freeC α n x2 := fun w => h ⟨q, w⟩
    have n8 : (J n = 8) = False := eq_false (by rw [show (8 : Int32) = J 8 from rfl, J_eq (by omega) (by omega)]; omega)
    simp only [↓reduceIte, e148_0, e148_1, e148_2, e148_3, e148_6, e148_9, e148_10, e148_13, e148_14, e148_15, e148_16, e148_18, e148_20, e148_22, e148_25, e148_28, e148_29, e148_32, e148_33, e148_36, e148_37, e148_38, e148_40, e148_43, e148_44, e148_45, e148_48, e148_51, e148_52, e148_55, e148_56, e148_59, e148_60, e148_63, e148_66, e148_67, e148_68, e148_69, e148_72, e148_73, e148_76, e148_77, e148_78, e148_80, e148_81, e148_84, e148_85, e148_86, e148_87, e148_88, e148_89, e148_90, e148_91, e148_93, e148_94, e148_95, e148_98, e148_99, e148_101, e148_102, e148_103, e148_106, e148_107, e148_109, e148_110, e148_111, e148_114, e148_115, e148_117, e148_118, e148_120, e148_123, e148_124, e148_126, e148_127, e148_129, e148_132, e148_133, e148_135, e148_136, e148_138, e148_141, e148_142, e148_144, e148_146, e148_148, e148_151, e148_152, e148_154, e148_156, e148_158, e148_161, e148_162, e148_164, e148_166, e148_168, e148_171, e148_172, e148_174, e148_176, e148_177, e148_180, e148_181, e148_183, e148_185, e148_186, e148_189, e148_190, e148_192, e148_194, e148_195, e148_198, e148_199, e148_201, e148_204, e148_206, isO70, s123 H R, bi_t hc, s147, bi_t hg, gf9_0 kd_70, m71_5 R, H.hn, n8, s133 H R (Or.inr hc), bi_f q2, i1_0, l30, pf9_5 kd_70, gf9_5 kd_70, up2_rr, aft_v, aft_n, Option.bind_some, rf_some, ck_i, ck_r, ck_n, nb0, nb1, nbi, Nat.reduceAdd, if_true, if_false, not_false_eq_true, not_true_eq_false]
  · have n8 : (J n = 8) = True := eq_true (by rw [show n = 8 by omega]; rfl)
    simp only [↓reduceIte, e148_0, e148_1, e148_2, e148_3, e148_6, e148_9, e148_10, e148_13, e148_14, e148_15, e148_16, e148_18, e148_20, e148_22, e148_25, e148_28, e148_29, e148_32, e148_33, e148_36, e148_37, e148_38, e148_40, e148_43, e148_44, e148_45, e148_48, e148_51, e148_52, e148_55, e148_56, e148_59, e148_60, e148_63, e148_66, e148_67, e148_68, e148_69, e148_72, e148_73, e148_76, e148_77, e148_78, e148_80, e148_81, e148_84, e148_85, e148_86, e148_87, e148_88, e148_89, e148_90, e148_91, e148_93, e148_94, e148_95, e148_98, e148_99, e148_101, e148_102, e148_103, e148_106, e148_107, e148_109, e148_110, e148_111, e148_114, e148_115, e148_117, e148_118, e148_120, e148_123, e148_124, e148_126, e148_127, e148_129, e148_132, e148_133, e148_135, e148_136, e148_138, e148_141, e148_142, e148_144, e148_146, e148_148, e148_151, e148_152, e148_154, e148_156, e148_158, e148_161, e148_162, e148_164, e148_166, e148_168, e148_171, e148_172, e148_174, e148_176, e148_177, e148_180, e148_181, e148_183, e148_185, e148_186, e148_189, e148_190, e148_192, e148_194, e148_195, e148_198, e148_199, e148_201, e148_204, e148_206, isO70, s123 H R, bi_t hc, s147, bi_t hg, gf9_0 kd_70, m71_5 R, H.hn, n8, i1_0, l30, pf9_5 kd_70, gf9_5 kd_70, up2_rr, aft_v, aft_n, Option.bind_some, rf_some, ck_i, ck_r, ck_n, nb0, nb1, nbi, Nat.reduceAdd, if_true, if_false, not_false_eq_true, not_true_eq_false]
end S59m
section S59o
variable {z : Zr} {α β γ : Mem} {π : Nat → Nat} {η : Int64} {o : Nat → Int64} {od : Nat → UInt64} {n l k : Nat} {x1 x2 x3 x4 x5 x6 : Int32}
theorem putB_o (B : Mem) (n : Nat) (x1 x2 x3 x4 x5 x6 : Int32) (v : Int32) {j : Nat} (h5 : j ≠ 5) (h : j < 6 + 15 * n ∨ 6 + 15 * n + 15 ≤ j) : addP (putB B n x1 x2 x3 x4 x5 x6) n v 71 j = B 71 j := by
  unfold addP putB
  repeat (rw [up2_a, if_neg (by omega)])
theorem putB_5 (B : Mem) (n : Nat) (x1 x2 x3 x4 x5 x6 : Int32) (v : Int32) : addP (putB B n x1 x2 x3 x4 x5 x6) n v 71 5 = J (n + 1) := by
  unfold addP putB
  repeat (rw [up2_a, if_neg (by omega)])
  rw [up2_a, if_pos rfl]
theorem putB_n0 (B : Mem) (n : Nat) (x1 x2 x3 x4 x5 x6 : Int32) (v : Int32) : addP (putB B n x1 x2 x3 x4 x5 x6) n v 71 (6 + 15 * n + 0) = x1 := by
  unfold addP putB
  repeat (rw [up2_a, if_neg (by omega)])
  rw [up2_a, if_pos rfl]
theorem putB_n1 (B : Mem) (n : Nat) (x1 x2 x3 x4 x5 x6 : Int32) (v : Int32) : addP (putB B n x1 x2 x3 x4 x5 x6) n v 71 (6 + 15 * n + 1) = x2 := by
  unfold addP putB
  repeat (rw [up2_a, if_neg (by omega)])
  rw [up2_a, if_pos rfl]
theorem putB_n2 (B : Mem) (n : Nat) (x1 x2 x3 x4 x5 x6 : Int32) (v : Int32) : addP (putB B n x1 x2 x3 x4 x5 x6) n v 71 (6 + 15 * n + 2) = x3 := by
  unfold addP putB
  repeat (rw [up2_a, if_neg (by omega)])
  rw [up2_a, if_pos rfl]
theorem putB_n3 (B : Mem) (n : Nat) (x1 x2 x3 x4 x5 x6 : Int32) (v : Int32) : addP (putB B n x1 x2 x3 x4 x5 x6) n v 71 (6 + 15 * n + 3) = x4 := by
  unfold addP putB
  repeat (rw [up2_a, if_neg (by omega)])
  rw [up2_a, if_pos rfl]
theorem putB_n4 (B : Mem) (n : Nat) (x1 x2 x3 x4 x5 x6 : Int32) (v : Int32) : addP (putB B n x1 x2 x3 x4 x5 x6) n v 71 (6 + 15 * n + 4) = 20 := by
  unfold addP putB
  repeat (rw [up2_a, if_neg (by omega)])
  rw [up2_a, if_pos rfl]
theorem putB_n5 (B : Mem) (n : Nat) (x1 x2 x3 x4 x5 x6 : Int32) (v : Int32) : addP (putB B n x1 x2 x3 x4 x5 x6) n v 71 (6 + 15 * n + 5) = x5 := by
  unfold addP putB
  repeat (rw [up2_a, if_neg (by omega)])
  rw [up2_a, if_pos rfl]
theorem putB_n6 (B : Mem) (n : Nat) (x1 x2 x3 x4 x5 x6 : Int32) (v : Int32) : addP (putB B n x1 x2 x3 x4 x5 x6) n v 71 (6 + 15 * n + 6) = x5 := by
  unfold addP putB
  repeat (rw [up2_a, if_neg (by omega)])
  rw [up2_a, if_pos rfl]
theorem putB_n7 (B : Mem) (n : Nat) (x1 x2 x3 x4 x5 x6 : Int32) (v : Int32) : addP (putB B n x1 x2 x3 x4 x5 x6) n v 71 (6 + 15 * n + 7) = x6 := by
  unfold addP putB
  repeat (rw [up2_a, if_neg (by omega)])
  rw [up2_a, if_pos rfl]
theorem putB_n8 (B : Mem) (n : Nat) (x1 x2 x3 x4 x5 x6 : Int32) (v : Int32) : addP (putB B n x1 x2 x3 x4 x5 x6) n v 71 (6 + 15 * n + 8) = v := by
  unfold addP putB
  repeat (rw [up2_a, if_neg (by omega)])
  rw [up2_a, if_pos rfl]
theorem putB_n9 (B : Mem) (n : Nat) (x1 x2 x3 x4 x5 x6 : Int32) (v : Int32) : addP (putB B n x1 x2 x3 x4 x5 x6) n v 71 (6 + 15 * n + 9) = 0 := by
  unfold addP putB
  repeat (rw [up2_a, if_neg (by omega)])
  rw [up2_a, if_pos rfl]
theorem putB_n10 (B : Mem) (n : Nat) (x1 x2 x3 x4 x5 x6 : Int32) (v : Int32) : addP (putB B n x1 x2 x3 x4 x5 x6) n v 71 (6 + 15 * n + 10) = 0 := by
  unfold addP putB
  repeat (rw [up2_a, if_neg (by omega)])
  rw [up2_a, if_pos rfl]
theorem putB_n11 (B : Mem) (n : Nat) (x1 x2 x3 x4 x5 x6 : Int32) (v : Int32) : addP (putB B n x1 x2 x3 x4 x5 x6) n v 71 (6 + 15 * n + 11) = (-1) := by
  unfold addP putB
  repeat (rw [up2_a, if_neg (by omega)])
  rw [up2_a, if_pos rfl]
theorem putB_n12 (B : Mem) (n : Nat) (x1 x2 x3 x4 x5 x6 : Int32) (v : Int32) : addP (putB B n x1 x2 x3 x4 x5 x6) n v 71 (6 + 15 * n + 12) = x6 := by
  unfold addP putB
  repeat (rw [up2_a, if_neg (by omega)])
  rw [up2_a, if_pos rfl]
theorem putB_n13 (B : Mem) (n : Nat) (x1 x2 x3 x4 x5 x6 : Int32) (v : Int32) : addP (putB B n x1 x2 x3 x4 x5 x6) n v 71 (6 + 15 * n + 13) = 0 := by
  unfold addP putB
  repeat (rw [up2_a, if_neg (by omega)])
  rw [up2_a, if_pos rfl]
theorem putB_n14 (B : Mem) (n : Nat) (x1 x2 x3 x4 x5 x6 : Int32) (v : Int32) : addP (putB B n x1 x2 x3 x4 x5 x6) n v 71 (6 + 15 * n + 14) = 0 := by
  unfold addP putB
  repeat (rw [up2_a, if_neg (by omega)])
  rw [up2_a, if_pos rfl]
theorem putB_m2 (B : Mem) (n : Nat) (x1 x2 x3 x4 x5 x6 : Int32) : putB B n x1 x2 x3 x4 x5 x6 71 (6 + 15 * n + 2) = x3 := by
  unfold putB
  repeat (rw [up2_a, if_neg (by omega)])
  rw [up2_a, if_pos rfl]
theorem putB_m4 (B : Mem) (n : Nat) (x1 x2 x3 x4 x5 x6 : Int32) : putB B n x1 x2 x3 x4 x5 x6 71 (6 + 15 * n + 4) = 20 := by
  unfold putB
  repeat (rw [up2_a, if_neg (by omega)])
  rw [up2_a, if_pos rfl]
theorem putB_h (B : Mem) (n : Nat) (x1 x2 x3 x4 x5 x6 : Int32) {j : Nat} (h : j < 5) : putB B n x1 x2 x3 x4 x5 x6 71 j = B 71 j := by
  unfold putB
  repeat (rw [up2_a, if_neg (by omega)])
theorem putB_Md (B : Mem) (n : Nat) (x1 x2 x3 x4 x5 x6 : Int32) (v : Int32) : Md B (addP (putB B n x1 x2 x3 x4 x5 x6) n v) := by
  intro j hj
  unfold addP putB
  repeat (rw [up2_ne _ hj])
theorem op_add (I : Inv α π β n l k) (x1 x2 x3 x4 x5 x6 : Int32) : Res (fun hh => Run 216 0 [some (.ref (3)), some (.int (x1)), some (.int (x2)), some (.int (x3)), some (.int (x4)), some (.int (x5)), some (.int (x6)), some (.ref (75)), none] [] hh) (fun hh => Run 148 0 [some (.ref (70)), some (.int (x1)), some (.int (x2)), some (.int (x3)), some (.int (x4)), some (.int (x5)), some (.int (x6)), none] [] hh) z α π β η o od := by
  by_cases p : isCellC α 4 x2
  · by_cases g : givC x1 x3 x4 x5 x6
    · by_cases q : n < 8 ∧ freeC α n x2
      · have h8 := I.1.n8
        have Q := Inv_kept I
        have sq : Sq α (saveC α π n k) := fun j q w => save_sq I.se I.k4 h8 q w
        have pc : isCellC (saveC α π n k) 4 x2 := by rw [cell_sq sq]; exact p
        have HM := Ok_addM Q.1 q.1 g pc
        have hd := HM.hdJ (show n < n + 1 by omega)
        have hw := HM.wdJ
        have hsp := (spd_bd HM (show n < n + 1 by omega) (hdA (addM (saveC α π n k) n x1 x2 x3 x4 x5 x6) (7 + n)) (wdN (addM (saveC α π n k) n x1 x2 x3 x4 x5 x6))).1
        have R0 := Q.2.2.1
        have b3 : putB (keepB (up2 β 70 5 0) k) n x1 x2 x3 x4 x5 x6 71 3 = addM (saveC α π n k) n x1 x2 x3 x4 x5 x6 4 3 := by
          rw [putB_h _ _ _ _ _ _ _ _ (by decide), R0.1 3 (by decide), addM_4 _ _ _ _ _ _ _ _ (by decide)]
        have b2 : putB (keepB (up2 β 70 5 0) k) n x1 x2 x3 x4 x5 x6 71 2 = J (wdN (addM (saveC α π n k) n x1 x2 x3 x4 x5 x6)) := by
          rw [putB_h _ _ _ _ _ _ _ _ (by decide), R0.1 2 (by decide), ← hw.2, addM_4 _ _ _ _ _ _ _ _ (by decide)]
        have bh : putB (keepB (up2 β 70 5 0) k) n x1 x2 x3 x4 x5 x6 71 (6 + 15 * n + 2) = J (hdA (addM (saveC α π n k) n x1 x2 x3 x4 x5 x6) (7 + n)) := by
          rw [putB_m2, ← hd.2, addM_n, launch_2]
        have es : spdC (addM (saveC α π n k) n x1 x2 x3 x4 x5 x6) (7 + n) (hdA (addM (saveC α π n k) n x1 x2 x3 x4 x5 x6) (7 + n)) (wdN (addM (saveC α π n k) n x1 x2 x3 x4 x5 x6)) = (J (facN (angN (hdA (addM (saveC α π n k) n x1 x2 x3 x4 x5 x6) (7 + n)) (wdN (addM (saveC α π n k) n x1 x2 x3 x4 x5 x6)))) * putB (keepB (up2 β 70 5 0) k) n x1 x2 x3 x4 x5 x6 71 3 * 20 + 19) / 20 := by
          unfold spdC; rw [b3, addM_n _ _ _ _ _ _ _ _, launch_4]
        rw [es] at hsp
        have tm := t146 (z := z) (γ := addC (saveC α π n k) n x1 x2 x3 x4 x5 x6) (π := saveP π k) (η := η) (o := vp_updL o 0 (J n).toInt64) (od := od) (β := putB (keepB (up2 β 70 5 0) k) n x1 x2 x3 x4 x5 x6) q.1 hd.1 hw.1 bh (putB_m4 ..) b2 hsp
        rw [← es] at tm
        have hm := s148 (z := z) (γ := addC (saveC α π n k) n x1 x2 x3 x4 x5 x6) (π := saveP π k) (η := η) (o := vp_updL o 0 (J n).toInt64) (od := od) I.1 I.2.2.1 I.k2 I.k4 q.1 g q.2 tm
        refine Res_m (n := n + 1) (l := l) (k := saveK k + 1) (w216_ok _ _ _ _ _ _ (s86 I.1 I.se I.k1 I.k4 q.1 g q.2)) hm (by rw [Md_705 (putB_Md _ _ _ _ _ _ _ _ _), kept_5]) ?_
        refine Inv_up Q (Fs_t (Fs_t (Fs_launch _ q.1 _ _ _ _ _ _) (Fs_up _ (by decide) _ _)) (Fs_ready _ q.1)) (Ok_ready HM (by omega)) (Dj_ready (Dj_addM Q.2.1 q.1 (by rw [shipOn_sq sq _ _ _ (by omega)]; exact q.2.2.2)) _) ?_ (Mq_md (putB_Md _ _ _ _ _ _ _ _ _))
        have eC : ∀ j m, j ≠ 7 + n → addC (saveC α π n k) n x1 x2 x3 x4 x5 x6 j m = addM (saveC α π n k) n x1 x2 x3 x4 x5 x6 j m := fun j m hj => by
          unfold addC readyC
          rw [up2_ne _ hj, up2_ne _ hj, up2_ne _ hj]
        refine ⟨fun m hm => ?_, fun c hc => ?_, fun i hi m hm => ?_⟩
        · rw [eC 4 m (by omega)]
          by_cases w : m = 5
          · subst w; rw [putB_5]; unfold addM; rw [up2_rr]
          · rw [putB_o _ _ _ _ _ _ _ _ _ w (by omega), addM_4 _ _ _ _ _ _ _ _ w]; exact R0.1 m hm
        · rw [eC 5 c (by omega), putB_o _ _ _ _ _ _ _ _ _ (by omega) (by omega), addM_5]; exact R0.2.1 c hc
        · by_cases w : i = n
          · subst w
            have e20 : (0 : Int32) < 20 := by decide
            have ho : ∀ q, q ≠ 9 → q ≠ 13 → q ≠ 14 → addC (saveC α π i k) i x1 x2 x3 x4 x5 x6 (7 + i) q = launchC (saveC α π i k) (7 + i) x1 x2 x3 x4 x5 x6 (7 + i) q := fun q q1 q2 q3 => by
              unfold addC readyC
              rw [up2_rd _ _ _ _ _ q2, up2_rd _ _ _ _ _ q3, up2_rd _ _ _ _ _ q1, addM_n]
            have : m = 0 ∨ m = 1 ∨ m = 2 ∨ m = 3 ∨ m = 4 ∨ m = 5 ∨ m = 6 ∨ m = 7 ∨ m = 8 ∨ m = 9 ∨ m = 10 ∨ m = 11 ∨ m = 12 ∨ m = 13 ∨ m = 14 := by omega
            rcases this with rfl | rfl | rfl | rfl | rfl | rfl | rfl | rfl | rfl | rfl | rfl | rfl | rfl | rfl | rfl
            · rw [putB_n0]; show _ = addC _ _ _ _ _ _ _ _ (7 + i) 0; rw [ho 0 (by decide) (by decide) (by decide), launch_0]
            · rw [putB_n1]; show _ = addC _ _ _ _ _ _ _ _ (7 + i) 1; rw [ho 1 (by decide) (by decide) (by decide), launch_1]
            · rw [putB_n2]; show _ = addC _ _ _ _ _ _ _ _ (7 + i) 2; rw [ho 2 (by decide) (by decide) (by decide), launch_2]
            · rw [putB_n3]; show _ = addC _ _ _ _ _ _ _ _ (7 + i) 3; rw [ho 3 (by decide) (by decide) (by decide), launch_3]
            · rw [putB_n4]; show _ = addC _ _ _ _ _ _ _ _ (7 + i) 4; rw [ho 4 (by decide) (by decide) (by decide), launch_4]
            · rw [putB_n5]; show _ = addC _ _ _ _ _ _ _ _ (7 + i) 5; rw [ho 5 (by decide) (by decide) (by decide), launch_5]
            · rw [putB_n6]; show _ = addC _ _ _ _ _ _ _ _ (7 + i) 6; rw [ho 6 (by decide) (by decide) (by decide), launch_6]
            · rw [putB_n7]; show _ = addC _ _ _ _ _ _ _ _ (7 + i) 7; rw [ho 7 (by decide) (by decide) (by decide), launch_7]
            · rw [putB_n8]; show _ = addC _ _ _ _ _ _ _ _ (7 + i) 9; unfold addC readyC; rw [u13_9, u14_9, up2_rr, addM_n, launch_4, if_pos e20]
            · rw [putB_n9]; show _ = addC _ _ _ _ _ _ _ _ (7 + i) 10; rw [ho 10 (by decide) (by decide) (by decide), launch_10]
            · rw [putB_n10]; show _ = addC _ _ _ _ _ _ _ _ (7 + i) 11; rw [ho 11 (by decide) (by decide) (by decide), launch_11]
            · rw [putB_n11]; show _ = addC _ _ _ _ _ _ _ _ (7 + i) 12; rw [ho 12 (by decide) (by decide) (by decide), launch_12]
            · rw [putB_n12]; show _ = addC _ _ _ _ _ _ _ _ (7 + i) 8; rw [ho 8 (by decide) (by decide) (by decide), launch_8]
            · rw [putB_n13]; show _ = addC _ _ _ _ _ _ _ _ (7 + i) 14; unfold addC readyC; rw [u13_14, up2_rr]
            · rw [putB_n14]; show _ = addC _ _ _ _ _ _ _ _ (7 + i) 13; unfold addC readyC; rw [up2_rr]
          · rw [eC (7 + i) _ (by omega), putB_o _ _ _ _ _ _ _ _ _ (by omega) (by omega), addM_o _ _ _ _ _ _ _ _ w]; exact R0.2.2 i (by omega) m hm
      · exact Res_thr (kk := 3) (by decide) (w216_x3 _ _ _ _ _ _ (s86x I.1 p g q)) (s148x I.1 I.2.2.1 p g q) I
    · exact Res_thr (kk := 2) (by decide) (w216_x2 _ _ _ _ _ _ (s86m p g)) (s148m I.1 I.2.2.1 p g) I
  · exact Res_thr (kk := 1) (by decide) (w216_x1 _ _ _ _ _ _ (s86n p)) (s148n I.1 I.2.2.1 p) I
end S59o
