/-! the digest -/
theorem Ed_sq {α α1 : Mem} {n i : Nat} (h : Sq α α1) (h8 : n ≤ 8) (hi : i < 8) (s t : Nat) : Ed α1 n i s t = Ed α n i s t := by
  unfold Ed
  rw [aE_sq h h8 hi, tE_sq h, tE_sq h]
theorem Pr_sq {α α1 : Mem} {n i : Nat} (h : Sq α α1) (h8 : n ≤ 8) (hi : i < 8) (S : Nat → Prop) (pt pj : Nat → Int32) (v : Int32) : Pr α1 n i S pt pj v = Pr α n i S pt pj v := by
  unfold Pr
  simp only [Ed_sq h h8 hi]
theorem Phs_sq {α α1 : Mem} {n i : Nat} (h : Sq α α1) (h8 : n ≤ 8) (hi : i < 8) : ∀ p a b, Phs α1 n i p a b = Phs α n i p a b := by
  intro p
  induction p with
  | zero => intro a b; rfl
  | succ p ih => intro a b; rw [Phs, Phs]; simp only [Pr_sq h h8 hi, ih]
theorem RV_sq {α α1 : Mem} {n i : Nat} (h : Sq α α1) (h8 : n ≤ 8) (hi : i < 8) (r : Int32) : RV α1 n i r = RV α n i r := by
  have e := h (7 + i) (by omega) (by omega)
  have e1 : phN α1 i = phN α i := by unfold phN; rw [e]
  have e2 : pts0 α1 i = pts0 α i := by unfold pts0 hdA; rw [e]
  unfold RV
  simp only [Phs_sq h h8 hi, e, e1, e2]
theorem shp_sq {α α1 : Mem} {i : Nat} (h : Sq α α1) (hi : i < 8) (a b w : Nat) : shpC α1 (7 + i) a b w = shpC α (7 + i) a b w := by
  unfold shpC spdC
  rw [h (7 + i) (by omega) (by omega), h 4 (by decide) (by decide)]
theorem hd_sq {α α1 : Mem} {i : Nat} (h : Sq α α1) (hi : i < 8) : hdA α1 (7 + i) = hdA α (7 + i) := by
  unfold hdA; rw [h (7 + i) (by omega) (by omega)]
theorem thing_sq {α α1 : Mem} {n : Nat} (h : Sq α α1) (h8 : n ≤ 8) (c : Int32) : thingC α1 n c = thingC α n c := by
  have e : rockC α1 c ↔ rockC α c := by unfold rockC; rw [cell_sq h, h 5 (by decide) (by decide)]
  unfold thingC
  rw [shipOn_sq h c n 0 (by omega)]
  by_cases q : rockC α c
  · rw [if_pos q, if_pos (e.mpr q)]
  · rw [if_neg q, if_neg (fun w => q (e.mp w))]
theorem sz_sq {α α1 : Mem} (h : Sq α α1) : szN α1 = szN α := by unfold szN; rw [h 4 (by decide) (by decide)]
def mixF (h : Int64) (v : Int32) : Int64 := (31 : Int64) * h + v.toInt64
def foldM (f : Nat → Int32) : Nat → Nat → Int64 → Int64
  | 0, _, h => h
  | k + 1, i, h => foldM f k (i + 1) (mixF h (f i))
def foldS (α : Mem) (rv : Nat → Int32) : Nat → Nat → Int64 → Int64
  | 0, _, h => h
  | k + 1, i, h => foldS α rv k (i + 1) (mixF (foldM (shpC α (7 + i) (hdA α (7 + i)) (wdN α)) 15 0 h) (rv i))
def digC (α : Mem) (n : Nat) (rv : Nat → Int32) (l k : Nat) : Int64 := mixF (foldM (fun c => thingC α n (J c)) (szN α) 0 (foldS α rv n 0 (foldM (valC α n) 10 0 (mixF 3347 (J l))))) (J k)
theorem J9 : (9 : Int32) = J 9 := rfl
theorem J14 : (14 : Int32) = J 14 := rfl
theorem J8 : (8 : Int32) = J 8 := rfl
theorem J15 : (15 : Int32) = J 15 := rfl
theorem J10 : (10 : Int32) = J 10 := rfl
section S71
variable {z : Zr} {α β γ : Mem} {π : Nat → Nat} {η : Int64} {o : Nat → Int64} {od : Nat → UInt64} {n l k : Nat} {rv : Nat → Int32}
theorem s109_a (H : Ok α n) (u : Option Value) : ∀ k w h, w + k = 10 → Run 109 15 [some (.ref (3)), some (.long (h)), none, some (.int (J w)), u] [] (HC z α π β η o od) = Run 109 43 [some (.ref (3)), some (.long (foldM (valC α n) k w h)), none, some (.int (J 10)), u] [] (HC z α π β η o od) := by
  intro k
  induction k with
  | zero =>
    intro w h hw
    have : w = 10 := by omega
    subst this
    have l : (9 : Int32) < J 10 := by decide
    simp only [↓reduceIte, e109_0, e109_3, e109_4, e109_7, e109_10, e109_11, e109_12, e109_13, e109_14, e109_15, e109_16, e109_18, e109_21, e109_24, e109_25, e109_26, e109_27, e109_30, e109_31, e109_34, e109_35, e109_36, e109_37, e109_40, e109_44, e109_45, e109_46, e109_47, e109_50, e109_53, e109_56, e109_57, e109_59, e109_62, e109_63, e109_65, e109_67, e109_69, e109_72, e109_75, e109_76, e109_77, e109_78, e109_81, e109_82, e109_85, e109_88, e109_89, e109_90, e109_92, e109_95, e109_96, e109_97, e109_98, e109_101, e109_104, e109_107, e109_108, e109_109, e109_110, e109_113, e109_114, e109_117, e109_120, e109_121, e109_122, e109_125, e109_126, e109_127, e109_128, e109_131, e109_134, e109_135, e109_138, e109_141, e109_142, e109_143, e109_145, e109_147, e109_148, e109_151, e109_154, e109_155, e109_156, e109_157, e109_160, e109_162, e109_165, e109_166, e109_167, e109_168, e109_171, e109_174, e109_177, e109_178, e109_179, e109_180, e109_183, e109_186, e109_187, e109_188, l, foldM, aft_v, aft_n, Option.bind_some, rf_some, ck_i, ck_r, ck_n, nb0, nb1, nbi, Nat.reduceAdd, if_true, if_false, not_false_eq_true, not_true_eq_false]
  | succ k ih =>
    intro w h hw
    have l : ¬ (9 : Int32) < J w := by rw [J9, J_lt (by omega) (by omega)]; omega
    have e68 := s68 (z := z) (β := β) (π := π) (η := η) (o := o) (od := od) H (show w < 10 by omega)
    rw [foldM, ← ih (w + 1) _ (by omega), e109_15]
    simp only [↓reduceIte, e109_0, e109_3, e109_4, e109_7, e109_10, e109_11, e109_12, e109_13, e109_14, e109_16, e109_18, e109_21, e109_24, e109_25, e109_26, e109_27, e109_30, e109_31, e109_34, e109_35, e109_36, e109_37, e109_40, e109_44, e109_45, e109_46, e109_47, e109_50, e109_53, e109_56, e109_57, e109_59, e109_62, e109_63, e109_65, e109_67, e109_69, e109_72, e109_75, e109_76, e109_77, e109_78, e109_81, e109_82, e109_85, e109_88, e109_89, e109_90, e109_92, e109_95, e109_96, e109_97, e109_98, e109_101, e109_104, e109_107, e109_108, e109_109, e109_110, e109_113, e109_114, e109_117, e109_120, e109_121, e109_122, e109_125, e109_126, e109_127, e109_128, e109_131, e109_134, e109_135, e109_138, e109_141, e109_142, e109_143, e109_145, e109_147, e109_148, e109_151, e109_154, e109_155, e109_156, e109_157, e109_160, e109_162, e109_165, e109_166, e109_167, e109_168, e109_171, e109_174, e109_177, e109_178, e109_179, e109_180, e109_183, e109_186, e109_187, e109_188, l, gf8_0 kd3, isO4, e68, mixF, J_succ, aft_v, aft_n, Option.bind_some, rf_some, ck_i, ck_r, ck_n, nb0, nb1, nbi, Nat.reduceAdd, if_true, if_false, not_false_eq_true, not_true_eq_false]
theorem s109_b (H : Ok α n) {i : Nat} (hi : i < n) : ∀ k w h, w + k = 15 → Run 109 65 [some (.ref (3)), some (.long (h)), none, some (.int (J i)), some (.int (J w))] [] (HC z α π β η o od) = Run 109 104 [some (.ref (3)), some (.long (foldM (shpC α (7 + i) (hdA α (7 + i)) (wdN α)) k w h)), none, some (.int (J i)), some (.int (J 15))] [] (HC z α π β η o od) := by
  have h8 := H.n8
  have hd := H.hdJ hi
  have hwd := H.wdJ
  intro k
  induction k with
  | zero =>
    intro w h hw
    have : w = 15 := by omega
    subst this
    have l : (14 : Int32) < J 15 := by decide
    simp only [↓reduceIte, e109_0, e109_3, e109_4, e109_7, e109_10, e109_11, e109_12, e109_13, e109_14, e109_15, e109_16, e109_18, e109_21, e109_24, e109_25, e109_26, e109_27, e109_30, e109_31, e109_34, e109_35, e109_36, e109_37, e109_40, e109_43, e109_44, e109_45, e109_46, e109_47, e109_50, e109_53, e109_56, e109_57, e109_59, e109_62, e109_63, e109_65, e109_67, e109_69, e109_72, e109_75, e109_76, e109_77, e109_78, e109_81, e109_82, e109_85, e109_88, e109_89, e109_90, e109_92, e109_95, e109_96, e109_97, e109_98, e109_101, e109_107, e109_108, e109_109, e109_110, e109_113, e109_114, e109_117, e109_120, e109_121, e109_122, e109_125, e109_126, e109_127, e109_128, e109_131, e109_134, e109_135, e109_138, e109_141, e109_142, e109_143, e109_145, e109_147, e109_148, e109_151, e109_154, e109_155, e109_156, e109_157, e109_160, e109_162, e109_165, e109_166, e109_167, e109_168, e109_171, e109_174, e109_177, e109_178, e109_179, e109_180, e109_183, e109_186, e109_187, e109_188, l, foldM, aft_v, aft_n, Option.bind_some, rf_some, ck_i, ck_r, ck_n, nb0, nb1, nbi, Nat.reduceAdd, if_true, if_false, not_false_eq_true, not_true_eq_false]
  | succ k ih =>
    intro w h hw
    have l : ¬ (14 : Int32) < J w := by rw [J14, J_lt (by omega) (by omega)]; omega
    have e69 := s69 (z := z) (β := β) (π := π) (η := η) (o := o) (od := od) (kd_ship (show i < 8 by omega)) hd.1 hwd.1 hd.2 hwd.2 (H.bo i hi) (show w < 15 by omega)
    rw [foldM, ← ih (w + 1) _ (by omega), e109_65]
    simp only [↓reduceIte, e109_0, e109_3, e109_4, e109_7, e109_10, e109_11, e109_12, e109_13, e109_14, e109_15, e109_16, e109_18, e109_21, e109_24, e109_25, e109_26, e109_27, e109_30, e109_31, e109_34, e109_35, e109_36, e109_37, e109_40, e109_43, e109_44, e109_45, e109_46, e109_47, e109_50, e109_53, e109_56, e109_57, e109_59, e109_62, e109_63, e109_67, e109_69, e109_72, e109_75, e109_76, e109_77, e109_78, e109_81, e109_82, e109_85, e109_88, e109_89, e109_90, e109_92, e109_95, e109_96, e109_97, e109_98, e109_101, e109_107, e109_108, e109_109, e109_110, e109_113, e109_114, e109_117, e109_120, e109_121, e109_122, e109_125, e109_126, e109_127, e109_128, e109_131, e109_134, e109_135, e109_138, e109_141, e109_142, e109_143, e109_145, e109_147, e109_148, e109_151, e109_154, e109_155, e109_156, e109_157, e109_160, e109_162, e109_165, e109_166, e109_167, e109_168, e109_171, e109_174, e109_177, e109_178, e109_179, e109_180, e109_183, e109_186, e109_187, e109_188, l, gf8_0 kd3, isO4, gf6_7 kd4, gaR21 kd6 (inB_J (show i < 8 by omega) (by omega)), J_tn (show i < 2147483648 by omega), e69, mixF, J_succ, aft_v, aft_n, Option.bind_some, rf_some, ck_i, ck_r, ck_n, nb0, nb1, nbi, Nat.reduceAdd, if_true, if_false, not_false_eq_true, not_true_eq_false]
theorem s109_c {α0 : Mem} (H0 : Ok α0 n) (hrv : ∀ i, i < n → RV α0 n i (rv i)) : ∀ k i (α : Mem) h (u : Option Value), i + k = n → Fc α0 α → ∃ α' u', Run 109 45 [some (.ref (3)), some (.long (h)), none, some (.int (J i)), u] [] (HC z α π β η o od) = Run 109 134 [some (.ref (3)), some (.long (foldS α0 rv k i h)), none, some (.int (J n)), u'] [] (HC z α' π β η o od) ∧ Fc α0 α' := by
  have h8 := H0.n8
  intro k
  induction k with
  | zero =>
    intro i α h u hi hF
    have : i = n := by omega
    subst this
    have H := Ok_sm (Sm_of h8 (Fc_sq hF)) H0
    refine ⟨α, u, ?_, hF⟩
    simp only [↓reduceIte, e109_0, e109_3, e109_4, e109_7, e109_10, e109_11, e109_12, e109_13, e109_14, e109_15, e109_16, e109_18, e109_21, e109_24, e109_25, e109_26, e109_27, e109_30, e109_31, e109_34, e109_35, e109_36, e109_37, e109_40, e109_43, e109_44, e109_45, e109_46, e109_47, e109_50, e109_53, e109_56, e109_57, e109_59, e109_62, e109_63, e109_65, e109_67, e109_69, e109_72, e109_75, e109_76, e109_77, e109_78, e109_81, e109_82, e109_85, e109_88, e109_89, e109_90, e109_92, e109_95, e109_96, e109_97, e109_98, e109_101, e109_104, e109_107, e109_108, e109_109, e109_110, e109_113, e109_114, e109_117, e109_120, e109_121, e109_122, e109_125, e109_126, e109_127, e109_128, e109_131, e109_135, e109_138, e109_141, e109_142, e109_143, e109_145, e109_147, e109_148, e109_151, e109_154, e109_155, e109_156, e109_157, e109_160, e109_162, e109_165, e109_166, e109_167, e109_168, e109_171, e109_174, e109_177, e109_178, e109_179, e109_180, e109_183, e109_186, e109_187, e109_188, gf8_0 kd3, gf6_5 kd4, H.hn, Int32.le_refl, foldS, aft_v, aft_n, Option.bind_some, rf_some, ck_i, ck_r, ck_n, nb0, nb1, nbi, Nat.reduceAdd, if_true, if_false, not_false_eq_true, not_true_eq_false]
  | succ k ih =>
    intro i α h u hi hF
    have hin : i < n := by omega
    have sq := Fc_sq hF
    have H := Ok_sm (Sm_of h8 sq) H0
    have e65 := s109_b (z := z) (β := β) (π := π) (η := η) (o := o) (od := od) H hin 15 0 h (by omega)
    obtain ⟨α1, r, f1, f2, f3⟩ := s1 (z := z) (β := β) (π := π) (η := η) (o := o) (od := od) H hin
    rw [RV_sq sq h8 (by omega)] at f3
    have er := RV_fun f3 (hrv i hin)
    subst er
    have efun : shpC α (7 + i) (hdA α (7 + i)) (wdN α) = shpC α0 (7 + i) (hdA α0 (7 + i)) (wdN α0) := by
      funext w; rw [hd_sq sq (by omega), wd_sq sq, shp_sq sq (by omega)]
    rw [efun, show J 0 = (0 : Int32) from rfl] at e65
    obtain ⟨α', u', g1, g2⟩ := ih (i + 1) α1 (mixF (foldM (shpC α0 (7 + i) (hdA α0 (7 + i)) (wdN α0)) 15 0 h) (rv i)) (some (.int (J 15))) (by omega) (Fc_t hF f2)
    refine ⟨α', u', ?_, g2⟩
    have st : Run 109 45 [some (.ref (3)), some (.long (h)), none, some (.int (J i)), u] [] (HC z α π β η o od) = Run 109 65 [some (.ref (3)), some (.long (h)), none, some (.int (J i)), some (.int (0))] [] (HC z α π β η o od) := by
      simp only [↓reduceIte, e109_0, e109_3, e109_4, e109_7, e109_10, e109_11, e109_12, e109_13, e109_14, e109_15, e109_16, e109_18, e109_21, e109_24, e109_25, e109_26, e109_27, e109_30, e109_31, e109_34, e109_35, e109_36, e109_37, e109_40, e109_43, e109_44, e109_45, e109_46, e109_47, e109_50, e109_53, e109_56, e109_57, e109_59, e109_62, e109_63, e109_67, e109_69, e109_72, e109_75, e109_76, e109_77, e109_78, e109_81, e109_82, e109_85, e109_88, e109_89, e109_90, e109_92, e109_95, e109_96, e109_97, e109_98, e109_101, e109_104, e109_107, e109_108, e109_109, e109_110, e109_113, e109_114, e109_117, e109_120, e109_121, e109_122, e109_125, e109_126, e109_127, e109_128, e109_131, e109_134, e109_135, e109_138, e109_141, e109_142, e109_143, e109_145, e109_147, e109_148, e109_151, e109_154, e109_155, e109_156, e109_157, e109_160, e109_162, e109_165, e109_166, e109_167, e109_168, e109_171, e109_174, e109_177, e109_178, e109_179, e109_180, e109_183, e109_186, e109_187, e109_188, gf8_0 kd3, gf6_5 kd4, H.hn, J_le (show n < 2147483648 by omega) (show i < 2147483648 by omega), show ¬ n ≤ i by omega, J8, J_le (show 8 < 2147483648 by omega) (show i < 2147483648 by omega), show ¬ 8 ≤ i by omega, aft_v, aft_n, Option.bind_some, rf_some, ck_i, ck_r, ck_n, nb0, nb1, nbi, Nat.reduceAdd, if_true, if_false, not_false_eq_true, not_true_eq_false]
    rw [foldS, ← g1, st, e65]
    simp only [↓reduceIte, e109_0, e109_3, e109_4, e109_7, e109_10, e109_11, e109_12, e109_13, e109_14, e109_15, e109_16, e109_18, e109_21, e109_24, e109_25, e109_26, e109_27, e109_30, e109_31, e109_34, e109_35, e109_36, e109_37, e109_40, e109_43, e109_44, e109_46, e109_47, e109_50, e109_53, e109_56, e109_57, e109_59, e109_62, e109_63, e109_67, e109_69, e109_72, e109_75, e109_76, e109_77, e109_78, e109_81, e109_82, e109_85, e109_88, e109_89, e109_90, e109_92, e109_95, e109_96, e109_97, e109_98, e109_101, e109_104, e109_107, e109_108, e109_109, e109_110, e109_113, e109_114, e109_117, e109_120, e109_121, e109_122, e109_125, e109_126, e109_127, e109_128, e109_131, e109_134, e109_135, e109_138, e109_141, e109_142, e109_143, e109_145, e109_147, e109_148, e109_151, e109_154, e109_155, e109_156, e109_157, e109_160, e109_162, e109_165, e109_166, e109_167, e109_168, e109_171, e109_174, e109_177, e109_178, e109_179, e109_180, e109_183, e109_186, e109_187, e109_188, gf8_0 kd3, gf8_5 kd3, isO_HC kd64 (show 0 ≤ 9 by decide), gf6_7 kd4, gaR21 kd6 (inB_J (show i < 8 by omega) (by omega)), J_tn (show i < 2147483648 by omega), f1, mixF, J_succ, aft_v, aft_n, Option.bind_some, rf_some, ck_i, ck_r, ck_n, nb0, nb1, nbi, Nat.reduceAdd, if_true, if_false, not_false_eq_true, not_true_eq_false]
theorem s109_d {α0 : Mem} (H : Ok α n) (u : Int32) : ∀ k c h, c + k = szN α → Run 109 145 [some (.ref (3)), some (.long (h)), none, some (.int (J (szN α))), some (.int (J c))] [] (HC z α π β η o od) = Run 109 174 [some (.ref (3)), some (.long (foldM (fun c => thingC α n (J c)) k c h)), none, some (.int (J (szN α))), some (.int (J (szN α)))] [] (HC z α π β η o od) := by
  have hsz := H.sz
  intro k
  induction k with
  | zero =>
    intro c h hc
    have : c = szN α := by omega
    subst this
    simp only [↓reduceIte, e109_0, e109_3, e109_4, e109_7, e109_10, e109_11, e109_12, e109_13, e109_14, e109_15, e109_16, e109_18, e109_21, e109_24, e109_25, e109_26, e109_27, e109_30, e109_31, e109_34, e109_35, e109_36, e109_37, e109_40, e109_43, e109_44, e109_45, e109_46, e109_47, e109_50, e109_53, e109_56, e109_57, e109_59, e109_62, e109_63, e109_65, e109_67, e109_69, e109_72, e109_75, e109_76, e109_77, e109_78, e109_81, e109_82, e109_85, e109_88, e109_89, e109_90, e109_92, e109_95, e109_96, e109_97, e109_98, e109_101, e109_104, e109_107, e109_108, e109_109, e109_110, e109_113, e109_114, e109_117, e109_120, e109_121, e109_122, e109_125, e109_126, e109_127, e109_128, e109_131, e109_134, e109_135, e109_138, e109_141, e109_142, e109_143, e109_145, e109_147, e109_148, e109_151, e109_154, e109_155, e109_156, e109_157, e109_160, e109_162, e109_165, e109_166, e109_167, e109_168, e109_171, e109_177, e109_178, e109_179, e109_180, e109_183, e109_186, e109_187, e109_188, Int32.le_refl, foldM, aft_v, aft_n, Option.bind_some, rf_some, ck_i, ck_r, ck_n, nb0, nb1, nbi, Nat.reduceAdd, if_true, if_false, not_false_eq_true, not_true_eq_false]
  | succ k ih =>
    intro c h hc
    have e52 := s52 (z := z) (β := β) (π := π) (η := η) (o := o) (od := od) H (J c)
    rw [foldM, ← ih (c + 1) _ (by omega), e109_145]
    simp only [↓reduceIte, e109_0, e109_3, e109_4, e109_7, e109_10, e109_11, e109_12, e109_13, e109_14, e109_15, e109_16, e109_18, e109_21, e109_24, e109_25, e109_26, e109_27, e109_30, e109_31, e109_34, e109_35, e109_36, e109_37, e109_40, e109_43, e109_44, e109_45, e109_46, e109_47, e109_50, e109_53, e109_56, e109_57, e109_59, e109_62, e109_63, e109_65, e109_67, e109_69, e109_72, e109_75, e109_76, e109_77, e109_78, e109_81, e109_82, e109_85, e109_88, e109_89, e109_90, e109_92, e109_95, e109_96, e109_97, e109_98, e109_101, e109_104, e109_107, e109_108, e109_109, e109_110, e109_113, e109_114, e109_117, e109_120, e109_121, e109_122, e109_125, e109_126, e109_127, e109_128, e109_131, e109_134, e109_135, e109_138, e109_141, e109_142, e109_143, e109_147, e109_148, e109_151, e109_154, e109_155, e109_156, e109_157, e109_160, e109_162, e109_165, e109_166, e109_167, e109_168, e109_171, e109_177, e109_178, e109_179, e109_180, e109_183, e109_186, e109_187, e109_188, J_le (show szN α < 2147483648 by omega) (show c < 2147483648 by omega), show ¬ szN α ≤ c by omega, gf8_0 kd3, isO4, e52, mixF, J_succ, aft_v, aft_n, Option.bind_some, rf_some, ck_i, ck_r, ck_n, nb0, nb1, nbi, Nat.reduceAdd, if_true, if_false, not_false_eq_true, not_true_eq_false]
theorem s109 (H : Ok α n) (hrv : ∀ i, i < n → RV α n i (rv i)) (hl : α 68 1 = J l) (hk : α 15 1 = J k) : ∃ α', Run 109 0 [some (.ref (3)), none, none, none, none] [] (HC z α π β η o od) = some (.inl (some (.long (digC α n rv l k))), HC z α' π β η o od) ∧ Fc α α' := by
  have h8 := H.n8
  have a := s109_a (z := z) (β := β) (π := π) (η := η) (o := o) (od := od) H none 10 0 (mixF 3347 (J l)) (by omega)
  obtain ⟨α', u', b, hF⟩ := s109_c (z := z) (β := β) (π := π) (η := η) (o := o) (od := od) H hrv n 0 α (foldM (valC α n) 10 0 (mixF 3347 (J l))) none (by omega) (Fc_r α)
  have sq := Fc_sq hF
  have H' := Ok_sm (Sm_of h8 sq) H
  have d := s109_d (z := z) (β := β) (π := π) (η := η) (o := o) (od := od) (α0 := α) H' 0 (szN α') 0 (foldS α rv n 0 (foldM (valC α n) 10 0 (mixF 3347 (J l)))) (by omega)
  have e43 := s43 (z := z) (β := β) (π := π) (η := η) (o := o) (od := od) H'
  have efun : (fun c => thingC α' n (J c)) = fun c => thingC α n (J c) := by funext c; rw [thing_sq sq h8]
  rw [H'.sz.1] at e43
  rw [efun] at d
  rw [sz_sq sq] at d e43
  have hk' : α' 15 1 = J k := by rw [hF 15 (by decide)]; exact hk
  rw [show J 0 = (0 : Int32) from rfl] at a b d
  refine ⟨α', ?_, hF⟩
  have c1 : (103757 : Int64) + (J l).toInt64 = mixF 3347 (J l) := by
    unfold mixF
    rw [show (31 : Int64) * 3347 = 103757 by decide]
  have st : Run 109 0 [some (.ref (3)), none, none, none, none] [] (HC z α π β η o od) = Run 109 15 [some (.ref (3)), some (.long (mixF 3347 (J l))), none, some (.int (0)), none] [] (HC z α π β η o od) := by
    simp only [↓reduceIte, e109_0, e109_3, e109_4, e109_7, e109_10, e109_11, e109_12, e109_13, e109_14, e109_16, e109_18, e109_21, e109_24, e109_25, e109_26, e109_27, e109_30, e109_31, e109_34, e109_35, e109_36, e109_37, e109_40, e109_43, e109_44, e109_45, e109_46, e109_47, e109_50, e109_53, e109_56, e109_57, e109_59, e109_62, e109_63, e109_65, e109_67, e109_69, e109_72, e109_75, e109_76, e109_77, e109_78, e109_81, e109_82, e109_85, e109_88, e109_89, e109_90, e109_92, e109_95, e109_96, e109_97, e109_98, e109_101, e109_104, e109_107, e109_108, e109_109, e109_110, e109_113, e109_114, e109_117, e109_120, e109_121, e109_122, e109_125, e109_126, e109_127, e109_128, e109_131, e109_134, e109_135, e109_138, e109_141, e109_142, e109_143, e109_145, e109_147, e109_148, e109_151, e109_154, e109_155, e109_156, e109_157, e109_160, e109_162, e109_165, e109_166, e109_167, e109_168, e109_171, e109_174, e109_177, e109_178, e109_179, e109_180, e109_183, e109_186, e109_187, e109_188, gf8_6 kd3, gf5_1 kd68, hl, c1, aft_v, aft_n, Option.bind_some, rf_some, ck_i, ck_r, ck_n, nb0, nb1, nbi, Nat.reduceAdd, if_true, if_false, not_false_eq_true, not_true_eq_false]
  rw [st, a]
  have st2 : Run 109 43 [some (.ref (3)), some (.long (foldM (valC α n) 10 0 (mixF 3347 (J l)))), none, some (.int (J 10)), none] [] (HC z α π β η o od) = Run 109 45 [some (.ref (3)), some (.long (foldM (valC α n) 10 0 (mixF 3347 (J l)))), none, some (.int (0)), none] [] (HC z α π β η o od) := by
    simp only [↓reduceIte, e109_0, e109_3, e109_4, e109_7, e109_10, e109_11, e109_12, e109_13, e109_14, e109_15, e109_16, e109_18, e109_21, e109_24, e109_25, e109_26, e109_27, e109_30, e109_31, e109_34, e109_35, e109_36, e109_37, e109_40, e109_43, e109_44, e109_46, e109_47, e109_50, e109_53, e109_56, e109_57, e109_59, e109_62, e109_63, e109_65, e109_67, e109_69, e109_72, e109_75, e109_76, e109_77, e109_78, e109_81, e109_82, e109_85, e109_88, e109_89, e109_90, e109_92, e109_95, e109_96, e109_97, e109_98, e109_101, e109_104, e109_107, e109_108, e109_109, e109_110, e109_113, e109_114, e109_117, e109_120, e109_121, e109_122, e109_125, e109_126, e109_127, e109_128, e109_131, e109_134, e109_135, e109_138, e109_141, e109_142, e109_143, e109_145, e109_147, e109_148, e109_151, e109_154, e109_155, e109_156, e109_157, e109_160, e109_162, e109_165, e109_166, e109_167, e109_168, e109_171, e109_174, e109_177, e109_178, e109_179, e109_180, e109_183, e109_186, e109_187, e109_188, aft_v, aft_n, Option.bind_some, rf_some, ck_i, ck_r, ck_n, nb0, nb1, nbi, Nat.reduceAdd, if_true, if_false, not_false_eq_true, not_true_eq_false]
  rw [st2, b]
  have st3 : Run 109 134 [some (.ref (3)), some (.long (foldS α rv n 0 (foldM (valC α n) 10 0 (mixF 3347 (J l))))), none, some (.int (J n)), u'] [] (HC z α' π β η o od) = Run 109 145 [some (.ref (3)), some (.long (foldS α rv n 0 (foldM (valC α n) 10 0 (mixF 3347 (J l))))), none, some (.int (J (szN α))), some (.int (0))] [] (HC z α' π β η o od) := by
    simp only [↓reduceIte, e109_0, e109_3, e109_4, e109_7, e109_10, e109_11, e109_12, e109_13, e109_14, e109_15, e109_16, e109_18, e109_21, e109_24, e109_25, e109_26, e109_27, e109_30, e109_31, e109_34, e109_35, e109_36, e109_37, e109_40, e109_43, e109_44, e109_45, e109_46, e109_47, e109_50, e109_53, e109_56, e109_57, e109_59, e109_62, e109_63, e109_65, e109_67, e109_69, e109_72, e109_75, e109_76, e109_77, e109_78, e109_81, e109_82, e109_85, e109_88, e109_89, e109_90, e109_92, e109_95, e109_96, e109_97, e109_98, e109_101, e109_104, e109_107, e109_108, e109_109, e109_110, e109_113, e109_114, e109_117, e109_120, e109_121, e109_122, e109_125, e109_126, e109_127, e109_128, e109_131, e109_134, e109_135, e109_138, e109_141, e109_142, e109_143, e109_147, e109_148, e109_151, e109_154, e109_155, e109_156, e109_157, e109_160, e109_162, e109_165, e109_166, e109_167, e109_168, e109_171, e109_174, e109_177, e109_178, e109_179, e109_180, e109_183, e109_186, e109_187, e109_188, gf8_0 kd3, isO4, e43, aft_v, aft_n, Option.bind_some, rf_some, ck_i, ck_r, ck_n, nb0, nb1, nbi, Nat.reduceAdd, if_true, if_false, not_false_eq_true, not_true_eq_false]
  rw [st3, d]
  unfold digC
  simp only [↓reduceIte, e109_0, e109_3, e109_4, e109_7, e109_10, e109_11, e109_12, e109_13, e109_14, e109_15, e109_16, e109_18, e109_21, e109_24, e109_25, e109_26, e109_27, e109_30, e109_31, e109_34, e109_35, e109_36, e109_37, e109_40, e109_43, e109_44, e109_45, e109_46, e109_47, e109_50, e109_53, e109_56, e109_57, e109_59, e109_62, e109_63, e109_65, e109_67, e109_69, e109_72, e109_75, e109_76, e109_77, e109_78, e109_81, e109_82, e109_85, e109_88, e109_89, e109_90, e109_92, e109_95, e109_96, e109_97, e109_98, e109_101, e109_104, e109_107, e109_108, e109_109, e109_110, e109_113, e109_114, e109_117, e109_120, e109_121, e109_122, e109_125, e109_126, e109_127, e109_128, e109_131, e109_134, e109_135, e109_138, e109_141, e109_142, e109_143, e109_147, e109_148, e109_151, e109_154, e109_155, e109_156, e109_157, e109_160, e109_162, e109_165, e109_166, e109_167, e109_168, e109_171, e109_174, e109_177, e109_178, e109_179, e109_180, e109_183, e109_186, e109_187, e109_188, gf8_1 kd3, gf4_1 kd15, hk', mixF, aft_v, aft_n, Option.bind_some, rf_some, ck_i, ck_r, ck_n, nb0, nb1, nbi, Nat.reduceAdd, if_true, if_false, not_false_eq_true, not_true_eq_false]
end S71
section S71m
variable {z : Zr} {α β γ : Mem} {π : Nat → Nat} {η : Int64} {o : Nat → Int64} {od : Nat → UInt64} {n l k : Nat} {rv : Nat → Int32}
theorem s206 (v : Int64) : Run 206 0 [some (.ref (70)), some (.long (v)), none] [] (HC z γ π β η o od) = some (.inl none, (HC z γ π β ((31 : Int64) * η + v) o od)) := by
  simp only [↓reduceIte, e206_0, e206_1, e206_4, e206_5, e206_8, e206_9, e206_10, e206_11, e206_14, gf9_10 kd_70, pf9_10 kd_70, aft_v, aft_n, Option.bind_some, rf_some, ck_i, ck_r, ck_n, nb0, nb1, nbi, Nat.reduceAdd, if_true, if_false, not_false_eq_true, not_true_eq_false]
theorem s207_a (H : Ok α n) (R : Rm (β 71) α n) (u : Option Value) : ∀ k w h, w + k = 10 → Run 207 23 [some (.ref (70)), some (.int (J w)), u] [] (HC z γ π β h o od) = Run 207 45 [some (.ref (70)), some (.int (J 10)), u] [] (HC z γ π β (foldM (valC α n) k w h) o od) := by
  intro k
  induction k with
  | zero =>
    intro w h hw
    have : w = 10 := by omega
    subst this
    simp only [↓reduceIte, e207_0, e207_1, e207_2, e207_5, e207_6, e207_9, e207_12, e207_13, e207_14, e207_17, e207_18, e207_21, e207_22, e207_23, e207_24, e207_26, e207_29, e207_30, e207_31, e207_32, e207_35, e207_36, e207_39, e207_42, e207_46, e207_47, e207_48, e207_49, e207_52, e207_53, e207_54, e207_57, e207_58, e207_59, e207_60, e207_62, e207_65, e207_66, e207_67, e207_68, e207_69, e207_72, e207_73, e207_76, e207_79, e207_82, e207_83, e207_84, e207_85, e207_88, e207_89, e207_92, e207_95, e207_98, e207_99, e207_100, e207_101, e207_102, e207_105, e207_108, e207_109, e207_110, e207_111, e207_114, e207_115, e207_118, e207_121, e207_124, e207_125, e207_126, e207_129, e207_130, e207_133, e207_134, e207_137, J10, Int32.le_refl, foldM, aft_v, aft_n, Option.bind_some, rf_some, ck_i, ck_r, ck_n, nb0, nb1, nbi, Nat.reduceAdd, if_true, if_false, not_false_eq_true, not_true_eq_false]
  | succ k ih =>
    intro w h hw
    have e151 := s151 (z := z) (γ := γ) (π := π) (η := h) (o := o) (od := od) H R (show w < 10 by omega)
    have e206 := s206 (z := z) (β := β) (γ := γ) (π := π) (η := h) (o := o) (od := od) (valC α n w).toInt64
    rw [foldM, ← ih (w + 1) _ (by omega), e207_23]
    simp only [↓reduceIte, e207_0, e207_1, e207_2, e207_5, e207_6, e207_9, e207_12, e207_13, e207_14, e207_17, e207_18, e207_21, e207_22, e207_24, e207_26, e207_29, e207_30, e207_31, e207_32, e207_35, e207_36, e207_39, e207_42, e207_46, e207_47, e207_48, e207_49, e207_52, e207_53, e207_54, e207_57, e207_58, e207_59, e207_60, e207_62, e207_65, e207_66, e207_67, e207_68, e207_69, e207_72, e207_73, e207_76, e207_79, e207_82, e207_83, e207_84, e207_85, e207_88, e207_89, e207_92, e207_95, e207_98, e207_99, e207_100, e207_101, e207_102, e207_105, e207_108, e207_109, e207_110, e207_111, e207_114, e207_115, e207_118, e207_121, e207_124, e207_125, e207_126, e207_129, e207_130, e207_133, e207_134, e207_137, J10, J_le (show 10 < 2147483648 by omega) (show w < 2147483648 by omega), show ¬ 10 ≤ w by omega, isO70, e151, e206, mixF, J_succ, aft_v, aft_n, Option.bind_some, rf_some, ck_i, ck_r, ck_n, nb0, nb1, nbi, Nat.reduceAdd, if_true, if_false, not_false_eq_true, not_true_eq_false]
theorem s207_b (H : Ok α n) (R : Rm (β 71) α n) {i : Nat} (hi : i < n) : ∀ k w h, w + k = 15 → Run 207 59 [some (.ref (70)), some (.int (J i)), some (.int (J w))] [] (HC z γ π β h o od) = Run 207 82 [some (.ref (70)), some (.int (J i)), some (.int (J 15))] [] (HC z γ π β (foldM (shpC α (7 + i) (hdA α (7 + i)) (wdN α)) k w h) o od) := by
  have h8 := H.n8
  intro k
  induction k with
  | zero =>
    intro w h hw
    have : w = 15 := by omega
    subst this
    simp only [↓reduceIte, e207_0, e207_1, e207_2, e207_5, e207_6, e207_9, e207_12, e207_13, e207_14, e207_17, e207_18, e207_21, e207_22, e207_23, e207_24, e207_26, e207_29, e207_30, e207_31, e207_32, e207_35, e207_36, e207_39, e207_42, e207_45, e207_46, e207_47, e207_48, e207_49, e207_52, e207_53, e207_54, e207_57, e207_58, e207_59, e207_60, e207_62, e207_65, e207_66, e207_67, e207_68, e207_69, e207_72, e207_73, e207_76, e207_79, e207_83, e207_84, e207_85, e207_88, e207_89, e207_92, e207_95, e207_98, e207_99, e207_100, e207_101, e207_102, e207_105, e207_108, e207_109, e207_110, e207_111, e207_114, e207_115, e207_118, e207_121, e207_124, e207_125, e207_126, e207_129, e207_130, e207_133, e207_134, e207_137, J15, Int32.le_refl, foldM, aft_v, aft_n, Option.bind_some, rf_some, ck_i, ck_r, ck_n, nb0, nb1, nbi, Nat.reduceAdd, if_true, if_false, not_false_eq_true, not_true_eq_false]
  | succ k ih =>
    intro w h hw
    have e153 := s153 (z := z) (γ := γ) (π := π) (η := h) (o := o) (od := od) H R hi (show w < 15 by omega)
    have e206 := s206 (z := z) (β := β) (γ := γ) (π := π) (η := h) (o := o) (od := od) (shpC α (7 + i) (hdA α (7 + i)) (wdN α) w).toInt64
    rw [foldM, ← ih (w + 1) _ (by omega), e207_59]
    simp only [↓reduceIte, e207_0, e207_1, e207_2, e207_5, e207_6, e207_9, e207_12, e207_13, e207_14, e207_17, e207_18, e207_21, e207_22, e207_23, e207_24, e207_26, e207_29, e207_30, e207_31, e207_32, e207_35, e207_36, e207_39, e207_42, e207_45, e207_46, e207_47, e207_48, e207_49, e207_52, e207_53, e207_54, e207_57, e207_58, e207_60, e207_62, e207_65, e207_66, e207_67, e207_68, e207_69, e207_72, e207_73, e207_76, e207_79, e207_83, e207_84, e207_85, e207_88, e207_89, e207_92, e207_95, e207_98, e207_99, e207_100, e207_101, e207_102, e207_105, e207_108, e207_109, e207_110, e207_111, e207_114, e207_115, e207_118, e207_121, e207_124, e207_125, e207_126, e207_129, e207_130, e207_133, e207_134, e207_137, J15, J_le (show 15 < 2147483648 by omega) (show w < 2147483648 by omega), show ¬ 15 ≤ w by omega, isO70, e153, e206, mixF, J_succ, aft_v, aft_n, Option.bind_some, rf_some, ck_i, ck_r, ck_n, nb0, nb1, nbi, Nat.reduceAdd, if_true, if_false, not_false_eq_true, not_true_eq_false]
theorem s207_c (H : Ok α n) (hrv : ∀ i, i < n → RV α n i (rv i)) : ∀ k i (β : Mem) h (u : Option Value), i + k = n → Rm (β 71) α n → ∃ β' u', Run 207 47 [some (.ref (70)), some (.int (J i)), u] [] (HC z γ π β h o od) = Run 207 98 [some (.ref (70)), some (.int (J n)), u'] [] (HC z γ π β' (foldS α rv k i h) o od) ∧ Rm (β' 71) α n ∧ Mq β β' := by
  have h8 := H.n8
  intro k
  induction k with
  | zero =>
    intro i β h u hi R
    have : i = n := by omega
    subst this
    refine ⟨β, u, ?_, R, Mq_r β⟩
    simp only [↓reduceIte, e207_0, e207_1, e207_2, e207_5, e207_6, e207_9, e207_12, e207_13, e207_14, e207_17, e207_18, e207_21, e207_22, e207_23, e207_24, e207_26, e207_29, e207_30, e207_31, e207_32, e207_35, e207_36, e207_39, e207_42, e207_45, e207_46, e207_47, e207_48, e207_49, e207_52, e207_53, e207_54, e207_57, e207_58, e207_59, e207_60, e207_62, e207_65, e207_66, e207_67, e207_68, e207_69, e207_72, e207_73, e207_76, e207_79, e207_82, e207_83, e207_84, e207_85, e207_88, e207_89, e207_92, e207_95, e207_99, e207_100, e207_101, e207_102, e207_105, e207_108, e207_109, e207_110, e207_111, e207_114, e207_115, e207_118, e207_121, e207_124, e207_125, e207_126, e207_129, e207_130, e207_133, e207_134, e207_137, gf9_0 kd_70, m71_5 R, H.hn, Int32.le_refl, foldS, aft_v, aft_n, Option.bind_some, rf_some, ck_i, ck_r, ck_n, nb0, nb1, nbi, Nat.reduceAdd, if_true, if_false, not_false_eq_true, not_true_eq_false]
  | succ k ih =>
    intro i β h u hi R
    have hin : i < n := by omega
    have e59 := s207_b (z := z) (γ := γ) (π := π) (o := o) (od := od) H R hin 15 0 h (by omega)
    obtain ⟨β1, r, f1, f2, f3, f4, -⟩ := s189 (z := z) (β := β) (γ := γ) (π := π) (η := foldM (shpC α (7 + i) (hdA α (7 + i)) (wdN α)) 15 0 h) (o := o) (od := od) H R hin
    have er := RV_fun f2 (hrv i hin)
    subst er
    have e206 := s206 (z := z) (β := β1) (γ := γ) (π := π) (η := foldM (shpC α (7 + i) (hdA α (7 + i)) (wdN α)) 15 0 h) (o := o) (od := od) (rv i).toInt64
    obtain ⟨β', u', g1, g2, g3⟩ := ih (i + 1) β1 (mixF (foldM (shpC α (7 + i) (hdA α (7 + i)) (wdN α)) 15 0 h) (rv i)) (some (.int (J 15))) (by omega) f3
    refine ⟨β', u', ?_, g2, Mq_t f4 g3⟩
    rw [show J 0 = (0 : Int32) from rfl] at e59
    have st : Run 207 47 [some (.ref (70)), some (.int (J i)), u] [] (HC z γ π β h o od) = Run 207 59 [some (.ref (70)), some (.int (J i)), some (.int (0))] [] (HC z γ π β h o od) := by
      simp only [↓reduceIte, e207_0, e207_1, e207_2, e207_5, e207_6, e207_9, e207_12, e207_13, e207_14, e207_17, e207_18, e207_21, e207_22, e207_23, e207_24, e207_26, e207_29, e207_30, e207_31, e207_32, e207_35, e207_36, e207_39, e207_42, e207_45, e207_46, e207_47, e207_48, e207_49, e207_52, e207_53, e207_54, e207_57, e207_58, e207_60, e207_62, e207_65, e207_66, e207_67, e207_68, e207_69, e207_72, e207_73, e207_76, e207_79, e207_82, e207_83, e207_84, e207_85, e207_88, e207_89, e207_92, e207_95, e207_98, e207_99, e207_100, e207_101, e207_102, e207_105, e207_108, e207_109, e207_110, e207_111, e207_114, e207_115, e207_118, e207_121, e207_124, e207_125, e207_126, e207_129, e207_130, e207_133, e207_134, e207_137, gf9_0 kd_70, m71_5 R, H.hn, J_le (show n < 2147483648 by omega) (show i < 2147483648 by omega), show ¬ n ≤ i by omega, aft_v, aft_n, Option.bind_some, rf_some, ck_i, ck_r, ck_n, nb0, nb1, nbi, Nat.reduceAdd, if_true, if_false, not_false_eq_true, not_true_eq_false]
    rw [foldS, ← g1, st, e59]
    simp only [↓reduceIte, e207_0, e207_1, e207_2, e207_5, e207_6, e207_9, e207_12, e207_13, e207_14, e207_17, e207_18, e207_21, e207_22, e207_23, e207_24, e207_26, e207_29, e207_30, e207_31, e207_32, e207_35, e207_36, e207_39, e207_42, e207_45, e207_46, e207_48, e207_49, e207_52, e207_53, e207_54, e207_57, e207_58, e207_60, e207_62, e207_65, e207_66, e207_67, e207_68, e207_69, e207_72, e207_73, e207_76, e207_79, e207_82, e207_83, e207_84, e207_85, e207_88, e207_89, e207_92, e207_95, e207_98, e207_99, e207_100, e207_101, e207_102, e207_105, e207_108, e207_109, e207_110, e207_111, e207_114, e207_115, e207_118, e207_121, e207_124, e207_125, e207_126, e207_129, e207_130, e207_133, e207_134, e207_137, isO70, f1, e206, mixF, J_succ, aft_v, aft_n, Option.bind_some, rf_some, ck_i, ck_r, ck_n, nb0, nb1, nbi, Nat.reduceAdd, if_true, if_false, not_false_eq_true, not_true_eq_false]
theorem s207_d (H : Ok α n) (R : Rm (β 71) α n) (u : Option Value) : ∀ k c h, c + k = szN α → Run 207 100 [some (.ref (70)), some (.int (J c)), u] [] (HC z γ π β h o od) = Run 207 124 [some (.ref (70)), some (.int (J (szN α))), u] [] (HC z γ π β (foldM (fun c => thingC α n (J c)) k c h) o od) := by
  have hsz := H.sz
  intro k
  induction k with
  | zero =>
    intro c h hc
    have : c = szN α := by omega
    subst this
    simp only [↓reduceIte, e207_0, e207_1, e207_2, e207_5, e207_6, e207_9, e207_12, e207_13, e207_14, e207_17, e207_18, e207_21, e207_22, e207_23, e207_24, e207_26, e207_29, e207_30, e207_31, e207_32, e207_35, e207_36, e207_39, e207_42, e207_45, e207_46, e207_47, e207_48, e207_49, e207_52, e207_53, e207_54, e207_57, e207_58, e207_59, e207_60, e207_62, e207_65, e207_66, e207_67, e207_68, e207_69, e207_72, e207_73, e207_76, e207_79, e207_82, e207_83, e207_84, e207_85, e207_88, e207_89, e207_92, e207_95, e207_98, e207_99, e207_100, e207_101, e207_102, e207_105, e207_108, e207_109, e207_110, e207_111, e207_114, e207_115, e207_118, e207_121, e207_125, e207_126, e207_129, e207_130, e207_133, e207_134, e207_137, isO70, s122 R, hsz.1, Int32.le_refl, foldM, aft_v, aft_n, Option.bind_some, rf_some, ck_i, ck_r, ck_n, nb0, nb1, nbi, Nat.reduceAdd, if_true, if_false, not_false_eq_true, not_true_eq_false]
  | succ k ih =>
    intro c h hc
    have e132 := s132 (z := z) (γ := γ) (π := π) (η := h) (o := o) (od := od) H R (rock_lt H (show c < szN α by omega))
    have e206 := s206 (z := z) (β := β) (γ := γ) (π := π) (η := h) (o := o) (od := od) (thingC α n (J c)).toInt64
    rw [foldM, ← ih (c + 1) _ (by omega), e207_100]
    simp only [↓reduceIte, e207_0, e207_1, e207_2, e207_5, e207_6, e207_9, e207_12, e207_13, e207_14, e207_17, e207_18, e207_21, e207_22, e207_23, e207_24, e207_26, e207_29, e207_30, e207_31, e207_32, e207_35, e207_36, e207_39, e207_42, e207_45, e207_46, e207_47, e207_48, e207_49, e207_52, e207_53, e207_54, e207_57, e207_58, e207_59, e207_60, e207_62, e207_65, e207_66, e207_67, e207_68, e207_69, e207_72, e207_73, e207_76, e207_79, e207_82, e207_83, e207_84, e207_85, e207_88, e207_89, e207_92, e207_95, e207_98, e207_99, e207_101, e207_102, e207_105, e207_108, e207_109, e207_110, e207_111, e207_114, e207_115, e207_118, e207_121, e207_125, e207_126, e207_129, e207_130, e207_133, e207_134, e207_137, isO70, s122 R, hsz.1, J_le (show szN α < 2147483648 by omega) (show c < 2147483648 by omega), show ¬ szN α ≤ c by omega, e132, e206, mixF, J_succ, aft_v, aft_n, Option.bind_some, rf_some, ck_i, ck_r, ck_n, nb0, nb1, nbi, Nat.reduceAdd, if_true, if_false, not_false_eq_true, not_true_eq_false]
theorem s207 (H : Ok α n) (R : Rm (β 71) α n) (hrv : ∀ i, i < n → RV α n i (rv i)) (hl : β 70 4 = J l) (hk : β 70 2 = J k) : ∃ β' η', Run 207 0 [some (.ref (70)), none, none] [] (HC z γ π β η o od) = some (.inl (some (.long (digC α n rv l k))), HC z γ π β' η' o od) ∧ Rm (β' 71) α n ∧ Mq β β' := by
  have R0 := Rm_cd R 5 0
  have hl0 : up2 β 70 5 0 70 4 = J l := by rw [up2_rd _ _ _ _ _ (by decide)]; exact hl
  have e0 := s206 (z := z) (β := up2 β 70 5 0) (γ := γ) (π := π) (η := 3347) (o := o) (od := od) (J l).toInt64
  have a := s207_a (z := z) (γ := γ) (π := π) (o := o) (od := od) H R0 none 10 0 (mixF 3347 (J l)) (by omega)
  obtain ⟨β', u', b, R', M'⟩ := s207_c (z := z) (γ := γ) (π := π) (o := o) (od := od) H hrv n 0 (up2 β 70 5 0) (foldM (valC α n) 10 0 (mixF 3347 (J l))) none (by omega) R0
  have d := s207_d (z := z) (γ := γ) (π := π) (o := o) (od := od) H R' u' (szN α) 0 (foldS α rv n 0 (foldM (valC α n) 10 0 (mixF 3347 (J l)))) (by omega)
  have hk' : β' 70 2 = J k := by rw [M'.2.2.1, up2_rd _ _ _ _ _ (by decide)]; exact hk
  have ef := s206 (z := z) (β := β') (γ := γ) (π := π) (η := foldM (fun c => thingC α n (J c)) (szN α) 0 (foldS α rv n 0 (foldM (valC α n) 10 0 (mixF 3347 (J l))))) (o := o) (od := od) (J k).toInt64
  rw [show J 0 = (0 : Int32) from rfl] at a b d
  refine ⟨β', digC α n rv l k, ?_, R', Mq_t (Mq_70 β (by decide) (by decide) 0) M'⟩
  have st : Run 207 0 [some (.ref (70)), none, none] [] (HC z γ π β η o od) = Run 207 23 [some (.ref (70)), some (.int (0)), none] [] (HC z γ π (up2 β 70 5 0) (mixF 3347 (J l)) o od) := by
    unfold mixF
    simp only [↓reduceIte, e207_0, e207_1, e207_2, e207_5, e207_6, e207_9, e207_12, e207_13, e207_14, e207_17, e207_18, e207_21, e207_22, e207_24, e207_26, e207_29, e207_30, e207_31, e207_32, e207_35, e207_36, e207_39, e207_42, e207_45, e207_46, e207_47, e207_48, e207_49, e207_52, e207_53, e207_54, e207_57, e207_58, e207_59, e207_60, e207_62, e207_65, e207_66, e207_67, e207_68, e207_69, e207_72, e207_73, e207_76, e207_79, e207_82, e207_83, e207_84, e207_85, e207_88, e207_89, e207_92, e207_95, e207_98, e207_99, e207_100, e207_101, e207_102, e207_105, e207_108, e207_109, e207_110, e207_111, e207_114, e207_115, e207_118, e207_121, e207_124, e207_125, e207_126, e207_129, e207_130, e207_133, e207_134, e207_137, pf9_5 kd_70, pf9_10 kd_70, gf9_4 kd_70, hl0, isO70, e0, aft_v, aft_n, Option.bind_some, rf_some, ck_i, ck_r, ck_n, nb0, nb1, nbi, Nat.reduceAdd, if_true, if_false, not_false_eq_true, not_true_eq_false]
  rw [st, a]
  have st2 : Run 207 45 [some (.ref (70)), some (.int (J 10)), none] [] (HC z γ π (up2 β 70 5 0) (foldM (valC α n) 10 0 (mixF 3347 (J l))) o od) = Run 207 47 [some (.ref (70)), some (.int (0)), none] [] (HC z γ π (up2 β 70 5 0) (foldM (valC α n) 10 0 (mixF 3347 (J l))) o od) := by
    simp only [↓reduceIte, e207_0, e207_1, e207_2, e207_5, e207_6, e207_9, e207_12, e207_13, e207_14, e207_17, e207_18, e207_21, e207_22, e207_23, e207_24, e207_26, e207_29, e207_30, e207_31, e207_32, e207_35, e207_36, e207_39, e207_42, e207_45, e207_46, e207_48, e207_49, e207_52, e207_53, e207_54, e207_57, e207_58, e207_59, e207_60, e207_62, e207_65, e207_66, e207_67, e207_68, e207_69, e207_72, e207_73, e207_76, e207_79, e207_82, e207_83, e207_84, e207_85, e207_88, e207_89, e207_92, e207_95, e207_98, e207_99, e207_100, e207_101, e207_102, e207_105, e207_108, e207_109, e207_110, e207_111, e207_114, e207_115, e207_118, e207_121, e207_124, e207_125, e207_126, e207_129, e207_130, e207_133, e207_134, e207_137, aft_v, aft_n, Option.bind_some, rf_some, ck_i, ck_r, ck_n, nb0, nb1, nbi, Nat.reduceAdd, if_true, if_false, not_false_eq_true, not_true_eq_false]
  rw [st2, b]
  have st3 : Run 207 98 [some (.ref (70)), some (.int (J n)), u'] [] (HC z γ π β' (foldS α rv n 0 (foldM (valC α n) 10 0 (mixF 3347 (J l)))) o od) = Run 207 100 [some (.ref (70)), some (.int (0)), u'] [] (HC z γ π β' (foldS α rv n 0 (foldM (valC α n) 10 0 (mixF 3347 (J l)))) o od) := by
    simp only [↓reduceIte, e207_0, e207_1, e207_2, e207_5, e207_6, e207_9, e207_12, e207_13, e207_14, e207_17, e207_18, e207_21, e207_22, e207_23, e207_24, e207_26, e207_29, e207_30, e207_31, e207_32, e207_35, e207_36, e207_39, e207_42, e207_45, e207_46, e207_47, e207_48, e207_49, e207_52, e207_53, e207_54, e207_57, e207_58, e207_59, e207_60, e207_62, e207_65, e207_66, e207_67, e207_68, e207_69, e207_72, e207_73, e207_76, e207_79, e207_82, e207_83, e207_84, e207_85, e207_88, e207_89, e207_92, e207_95, e207_98, e207_99, e207_101, e207_102, e207_105, e207_108, e207_109, e207_110, e207_111, e207_114, e207_115, e207_118, e207_121, e207_124, e207_125, e207_126, e207_129, e207_130, e207_133, e207_134, e207_137, aft_v, aft_n, Option.bind_some, rf_some, ck_i, ck_r, ck_n, nb0, nb1, nbi, Nat.reduceAdd, if_true, if_false, not_false_eq_true, not_true_eq_false]
  rw [st3, d]
  unfold digC mixF at *
  simp only [↓reduceIte, e207_0, e207_1, e207_2, e207_5, e207_6, e207_9, e207_12, e207_13, e207_14, e207_17, e207_18, e207_21, e207_22, e207_23, e207_24, e207_26, e207_29, e207_30, e207_31, e207_32, e207_35, e207_36, e207_39, e207_42, e207_45, e207_46, e207_47, e207_48, e207_49, e207_52, e207_53, e207_54, e207_57, e207_58, e207_59, e207_60, e207_62, e207_65, e207_66, e207_67, e207_68, e207_69, e207_72, e207_73, e207_76, e207_79, e207_82, e207_83, e207_84, e207_85, e207_88, e207_89, e207_92, e207_95, e207_98, e207_99, e207_101, e207_102, e207_105, e207_108, e207_109, e207_110, e207_111, e207_114, e207_115, e207_118, e207_121, e207_124, e207_125, e207_126, e207_129, e207_130, e207_133, e207_134, e207_137, gf9_2 kd_70, hk', isO70, ef, gf9_10 kd_70, aft_v, aft_n, Option.bind_some, rf_some, ck_i, ck_r, ck_n, nb0, nb1, nbi, Nat.reduceAdd, if_true, if_false, not_false_eq_true, not_true_eq_false]
end S71m
section S71o
variable {z : Zr} {α β γ : Mem} {π : Nat → Nat} {η : Int64} {o : Nat → Int64} {od : Nat → UInt64} {n l k : Nat}
/-- the digest: both answer v -/
theorem op_digest (I : Inv α π β n l k) : ∃ (v : Int64) (α' β' : Mem) (η' : Int64), Run 109 0 [some (.ref (3)), none, none, none, none] [] (HC z α π β η o od) = some (.inl (some (.long v)), HC z α' π β η o od) ∧ Run 207 0 [some (.ref (70)), none, none] [] (HC z α' π β η o od) = some (.inl (some (.long v)), HC z α' π β' η' o od) ∧ Inv α' π β' n l k := by
  have hx : ∃ rv : Nat → Int32, ∀ i, i < n → RV α n i (rv i) := by
    have h : ∀ i, ∃ r, i < n → RV α n i r := fun i => by
      by_cases q : i < n
      · obtain ⟨α', r, -, -, f3⟩ := s1 (z := z) (β := β) (π := π) (η := η) (o := o) (od := od) I.1 q
        exact ⟨r, fun _ => f3⟩
      · exact ⟨0, fun w => absurd w q⟩
    exact ⟨fun i => (h i).choose, fun i hi => (h i).choose_spec hi⟩
  obtain ⟨rv, hrv⟩ := hx
  obtain ⟨α', a, hF⟩ := s109 (z := z) (β := β) (π := π) (η := η) (o := o) (od := od) I.1 hrv I.2.2.2.1.1 I.k1
  obtain ⟨β', η', b, R', M'⟩ := s207 (z := z) (γ := α') (π := π) (η := η) (o := o) (od := od) I.1 I.2.2.1 hrv I.2.2.2.1.2.2.1 I.k2
  exact ⟨digC α n rv l k, α', β', η', a, b, Inv_fc I hF R' M'⟩
end S71o
