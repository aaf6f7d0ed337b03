/-! the digest -/
theorem Ed_sq {α α1 : Mem} {n i : Nat} (h : Sq α α1) (h8 : n ≤ 8) (hi : i < 8) (s t : Nat) : Ed α1 n i s t = Ed α n i s t := by
  unfold Ed
  rw [aE_sq h h8 hi, tE_sq h, tE_sq h]
theorem Pr_sq {α α1 : Mem} {n i : Nat} (h : Sq α α1) (h8 : n ≤ 8) (hi : i < 8) (S : Nat → Prop) (pt pj : Nat → Int32) (v : Int32) : Pr α1 n i S pt pj v = Pr α n i S pt pj v := by
  unfold Pr
  simp only [Ed_sq h h8 hi]
theorem Phs_sq {α α1 : Mem} {n i : Nat} (h : Sq α α1) (h8 : n ≤ 8) (hi : i < 8) : ∀ p a b, Phs α1 n i p a b = Phs α n i p a b := by
  intro p
  induction p with
  | zero => intro a b; rfl
  | succ p ih => intro a b; rw [Phs, Phs]; simp only [Pr_sq h h8 hi, ih]
theorem RV_sq {α α1 : Mem} {n i : Nat} (h : Sq α α1) (h8 : n ≤ 8) (hi : i < 8) (r : Int32) : RV α1 n i r = RV α n i r := by
  have e := h (7 + i) (by omega) (by omega)
  have e1 : phN α1 i = phN α i := by unfold phN; rw [e]
  have e2 : pts0 α1 i = pts0 α i := by unfold pts0 hdA; rw [e]
  unfold RV
  simp only [Phs_sq h h8 hi, e, e1, e2]
theorem shp_sq {α α1 : Mem} {i : Nat} (h : Sq α α1) (hi : i < 8) (a b w : Nat) : shpC α1 (7 + i) a b w = shpC α (7 + i) a b w := by
  unfold shpC spdC
  rw [h (7 + i) (by omega) (by omega), h 4 (by decide) (by decide)]
theorem hd_sq {α α1 : Mem} {i : Nat} (h : Sq α α1) (hi : i < 8) : hdA α1 (7 + i) = hdA α (7 + i) := by
  unfold hdA; rw [h (7 + i) (by omega) (by omega)]
theorem thing_sq {α α1 : Mem} {n : Nat} (h : Sq α α1) (h8 : n ≤ 8) (c : Int32) : thingC α1 n c = thingC α n c := by
  have e : rockC α1 c ↔ rockC α c := by unfold rockC; rw [cell_sq h, h 5 (by decide) (by decide)]
  unfold thingC
  rw [shipOn_sq h c n 0 (by omega)]
  by_cases q : rockC α c
  · rw [if_pos q, if_pos (e.mpr q)]
  · rw [if_neg q, if_neg (fun w => q (e.mp w))]
theorem sz_sq {α α1 : Mem} (h : Sq α α1) : szN α1 = szN α := by unfold szN; rw [h 4 (by decide) (by decide)]
def mixF (h : Int64) (v : Int32) : Int64 := (31 : Int64) * h + v.toInt64
def foldM (f : Nat → Int32) : Nat → Nat → Int64 → Int64
  | 0, _, h => h
  | k + 1, i, h => foldM f k (i + 1) (mixF h (f i))
def foldS (α : Mem) (rv : Nat → Int32) : Nat → Nat → Int64 → Int64
  | 0, _, h => h
  | k + 1, i, h => foldS α rv k (i + 1) (mixF (foldM (shpC α (7 + i) (hdA α (7 + i)) (wdN α)) 15 0 h) (rv i))
def digC (α : Mem) (n : Nat) (rv : Nat → Int32) (l k : Nat) : Int64 := mixF (foldM (fun c => thingC α n (J c)) (szN α) 0 (foldS α rv n 0 (foldM (valC α n) 10 0 (mixF 3347 (J l))))) (J k)
theorem J9 : (9 : Int32) = J 9 := rfl
theorem J14 : (14 : Int32) = J 14 := rfl
theorem J8 : (8 : Int32) = J 8 := rfl
theorem J15 : (15 : Int32) = J 15 := rfl
theorem J10 : (10 : Int32) = J 10 := rfl
section S71
variable {z : Zr} {α β γ : Mem} {π : Nat → Nat} {η : Int64} {o : Nat → Int64} {od : Nat → UInt64} {n l k : Nat} {rv : Nat → Int32}
theorem s108_a (H : Ok α n) (u : Option Value) : ∀ k w h, w + k = 10 → Run 108 15 [some (.ref (3)), some (.long (h)), none, some (.int (J w)), u] [] (HC z α π β η o od) = Run 108 43 [some (.ref (3)), some (.long (foldM (valC α n) k w h)), none, some (.int (J 10)), u] [] (HC z α π β η o od) := by
  intro k
  induction k with
  | zero =>
    intro w h hw
    have : w = 10 := by omega
    subst this
    have l : (9 : Int32) < J 10 := by decide
    simp only [↓reduceIte, e108_0, e108_3, e108_4, e108_7, e108_10, e108_11, e108_12, e108_13, e108_14, e108_15, e108_16, e108_18, e108_21, e108_24, e108_25, e108_26, e108_27, e108_30, e108_31, e108_34, e108_35, e108_36, e108_37, e108_40, e108_44, e108_45, e108_46, e108_47, e108_50, e108_53, e108_56, e108_57, e108_59, e108_62, e108_63, e108_65, e108_67, e108_69, e108_72, e108_75, e108_76, e108_77, e108_78, e108_81, e108_82, e108_85, e108_88, e108_89, e108_90, e108_92, e108_95, e108_96, e108_97, e108_98, e108_101, e108_104, e108_107, e108_108, e108_109, e108_110, e108_113, e108_114, e108_117, e108_120, e108_121, e108_122, e108_125, e108_126, e108_127, e108_128, e108_131, e108_134, e108_135, e108_138, e108_141, e108_142, e108_143, e108_145, e108_147, e108_148, e108_151, e108_154, e108_155, e108_156, e108_157, e108_160, e108_162, e108_165, e108_166, e108_167, e108_168, e108_171, e108_174, e108_177, e108_178, e108_179, e108_180, e108_183, e108_186, e108_187, e108_188, l, foldM, aft_v, aft_n, Option.bind_some, rf_some, ck_i, ck_r, ck_n, nb0, nb1, nbi, Nat.reduceAdd, if_true, if_false, not_false_eq_true, not_true_eq_false]
  | succ k ih =>
    intro w h hw
    have l : ¬ (9 : Int32) < J w := by rw [J9, J_lt (by omega) (by omega)]; omega
    have e68 := s68 (z := z) (β := β) (π := π) (η := η) (o := o) (od := od) H (show w < 10 by omega)
    rw [foldM, ← ih (w + 1) _ (by omega), e108_15]
    simp only [↓reduceIte, e108_0, e108_3, e108_4, e108_7, e108_10, e108_11, e108_12, e108_13, e108_14, e108_16, e108_18, e108_21, e108_24, e108_25, e108_26, e108_27, e108_30, e108_31, e108_34, e108_35, e108_36, e108_37, e108_40, e108_44, e108_45, e108_46, e108_47, e108_50, e108_53, e108_56, e108_57, e108_59, e108_62, e108_63, e108_65, e108_67, e108_69, e108_72, e108_75, e108_76, e108_77, e108_78, e108_81, e108_82, e108_85, e108_88, e108_89, e108_90, e108_92, e108_95, e108_96, e108_97, e108_98, e108_101, e108_104, e108_107, e108_108, e108_109, e108_110, e108_113, e108_114, e108_117, e108_120, e108_121, e108_122, e108_125, e108_126, e108_127, e108_128, e108_131, e108_134, e108_135, e108_138, e108_141, e108_142, e108_143, e108_145, e108_147, e108_148, e108_151, e108_154, e108_155, e108_156, e108_157, e108_160, e108_162, e108_165, e108_166, e108_167, e108_168, e108_171, e108_174, e108_177, e108_178, e108_179, e108_180, e108_183, e108_186, e108_187, e108_188, l, gf8_0 kd3, isO4, e68, mixF, J_succ, aft_v, aft_n, Option.bind_some, rf_some, ck_i, ck_r, ck_n, nb0, nb1, nbi, Nat.reduceAdd, if_true, if_false, not_false_eq_true, not_true_eq_false]
theorem s108_b (H : Ok α n) {i : Nat} (hi : i < n) : ∀ k w h, w + k = 15 → Run 108 65 [some (.ref (3)), some (.long (h)), none, some (.int (J i)), some (.int (J w))] [] (HC z α π β η o od) = Run 108 104 [some (.ref (3)), some (.long (foldM (shpC α (7 + i) (hdA α (7 + i)) (wdN α)) k w h)), none, some (.int (J i)), some (.int (J 15))] [] (HC z α π β η o od) := by
  have h8 := H.n8
  have hd := H.hdJ hi
  have hwd := H.wdJ
  intro k
  induction k with
  | zero =>
    intro w h hw
    have : w = 15 := by omega
    subst this
    have l : (14 : Int32) < J 15 := by decide
    simp only [↓reduceIte, e108_0, e108_3, e108_4, e108_7, e108_10, e108_11, e108_12, e108_13, e108_14, e108_15, e108_16, e108_18, e108_21, e108_24, e108_25, e108_26, e108_27, e108_30, e108_31, e108_34, e108_35, e108_36, e108_37, e108_40, e108_43, e108_44, e108_45, e108_46, e108_47, e108_50, e108_53, e108_56, e108_57, e108_59, e108_62, e108_63, e108_65, e108_67, e108_69, e108_72, e108_75, e108_76, e108_77, e108_78, e108_81, e108_82, e108_85, e108_88, e108_89, e108_90, e108_92, e108_95, e108_96, e108_97, e108_98, e108_101, e108_107, e108_108, e108_109, e108_110, e108_113, e108_114, e108_117, e108_120, e108_121, e108_122, e108_125, e108_126, e108_127, e108_128, e108_131, e108_134, e108_135, e108_138, e108_141, e108_142, e108_143, e108_145, e108_147, e108_148, e108_151, e108_154, e108_155, e108_156, e108_157, e108_160, e108_162, e108_165, e108_166, e108_167, e108_168, e108_171, e108_174, e108_177, e108_178, e108_179, e108_180, e108_183, e108_186, e108_187, e108_188, l, foldM, aft_v, aft_n, Option.bind_some, rf_some, ck_i, ck_r, ck_n, nb0, nb1, nbi, Nat.reduceAdd, if_true, if_false, not_false_eq_true, not_true_eq_false]
  | succ k ih =>
    intro w h hw
    have l : ¬ (14 : Int32) < J w := by rw [J14, J_lt (by omega) (by omega)]; omega
    have e69 := s69 (z := z) (β := β) (π := π) (η := η) (o := o) (od := od) (kd_ship (show i < 8 by omega)) hd.1 hwd.1 hd.2 hwd.2 (H.bo i hi) (show w < 15 by omega)
    rw [foldM, ← ih (w + 1) _ (by omega), e108_65]
    simp only [↓reduceIte, e108_0, e108_3, e108_4, e108_7, e108_10, e108_11, e108_12, e108_13, e108_14, e108_15, e108_16, e108_18, e108_21, e108_24, e108_25, e108_26, e108_27, e108_30, e108_31, e108_34, e108_35, e108_36, e108_37, e108_40, e108_43, e108_44, e108_45, e108_46, e108_47, e108_50, e108_53, e108_56, e108_57, e108_59, e108_62, e108_63, e108_67, e108_69, e108_72, e108_75, e108_76, e108_77, e108_78, e108_81, e108_82, e108_85, e108_88, e108_89, e108_90, e108_92, e108_95, e108_96, e108_97, e108_98, e108_101, e108_107, e108_108, e108_109, e108_110, e108_113, e108_114, e108_117, e108_120, e108_121, e108_122, e108_125, e108_126, e108_127, e108_128, e108_131, e108_134, e108_135, e108_138, e108_141, e108_142, e108_143, e108_145, e108_147, e108_148, e108_151, e108_154, e108_155, e108_156, e108_157, e108_160, e108_162, e108_165, e108_166, e108_167, e108_168, e108_171, e108_174, e108_177, e108_178, e108_179, e108_180, e108_183, e108_186, e108_187, e108_188, l, gf8_0 kd3, isO4, gf6_7 kd4, gaR21 kd6 (inB_J (show i < 8 by omega) (by omega)), J_tn (show i < 2147483648 by omega), e69, mixF, J_succ, aft_v, aft_n, Option.bind_some, rf_some, ck_i, ck_r, ck_n, nb0, nb1, nbi, Nat.reduceAdd, if_true, if_false, not_false_eq_true, not_true_eq_false]
theorem s108_c {α0 : Mem} (H0 : Ok α0 n) (hrv : ∀ i, i < n → RV α0 n i (rv i)) : ∀ k i (α : Mem) h (u : Option Value), i + k = n → Fc α0 α → ∃ α' u', Run 108 45 [some (.ref (3)), some (.long (h)), none, some (.int (J i)), u] [] (HC z α π β η o od) = Run 108 134 [some (.ref (3)), some (.long (foldS α0 rv k i h)), none, some (.int (J n)), u'] [] (HC z α' π β η o od) ∧ Fc α0 α' := by
  have h8 := H0.n8
  intro k
  induction k with
  | zero =>
    intro i α h u hi hF
    have : i = n := by omega
    subst this
    have H := Ok_sm (Sm_of h8 (Fc_sq hF)) H0
    refine ⟨α, u, ?_, hF⟩
    simp only [↓reduceIte, e108_0, e108_3, e108_4, e108_7, e108_10, e108_11, e108_12, e108_13, e108_14, e108_15, e108_16, e108_18, e108_21, e108_24, e108_25, e108_26, e108_27, e108_30, e108_31, e108_34, e108_35, e108_36, e108_37, e108_40, e108_43, e108_44, e108_45, e108_46, e108_47, e108_50, e108_53, e108_56, e108_57, e108_59, e108_62, e108_63, e108_65, e108_67, e108_69, e108_72, e108_75, e108_76, e108_77, e108_78, e108_81, e108_82, e108_85, e108_88, e108_89, e108_90, e108_92, e108_95, e108_96, e108_97, e108_98, e108_101, e108_104, e108_107, e108_108, e108_109, e108_110, e108_113, e108_114, e108_117, e108_120, e108_121, e108_122, e108_125, e108_126, e108_127, e108_128, e108_131, e108_135, e108_138, e108_141, e108_142, e108_143, e108_145, e108_147, e108_148, e108_151, e108_154, e108_155, e108_156, e108_157, e108_160, e108_162, e108_165, e108_166, e108_167, e108_168, e108_171, e108_174, e108_177, e108_178, e108_179, e108_180, e108_183, e108_186, e108_187, e108_188, gf8_0 kd3, gf6_5 kd4, H.hn, Int32.le_refl, foldS, aft_v, aft_n, Option.bind_some, rf_some, ck_i, ck_r, ck_n, nb0, nb1, nbi, Nat.reduceAdd, if_true, if_false, not_false_eq_true, not_true_eq_false]
  | succ k ih =>
    intro i α h u hi hF
    have hin : i < n := by omega
    have sq := Fc_sq hF
    have H := Ok_sm (Sm_of h8 sq) H0
    have e65 := s108_b (z := z) (β := β) (π := π) (η := η) (o := o) (od := od) H hin 15 0 h (by omega)
    obtain ⟨α1, r, f1, f2, f3⟩ := s1 (z := z) (β := β) (π := π) (η := η) (o := o) (od := od) H hin
    rw [RV_sq sq h8 (by omega)] at f3
    have er := RV_fun f3 (hrv i hin)
    subst er
    have efun : shpC α (7 + i) (hdA α (7 + i)) (wdN α) = shpC α0 (7 + i) (hdA α0 (7 + i)) (wdN α0) := by
      funext w; rw [hd_sq sq (by omega), wd_sq sq, shp_sq sq (by omega)]
    rw [efun, show J 0 = (0 : Int32) from rfl] at e65
    obtain ⟨α', u', g1, g2⟩ := ih (i + 1) α1 (mixF (foldM (shpC α0 (7 + i) (hdA α0 (7 + i)) (wdN α0)) 15 0 h) (rv i)) (some (.int (J 15))) (by omega) (Fc_t hF f2)
    refine ⟨α', u', ?_, g2⟩
    have st : Run 108 45 [some (.ref (3)), some (.long (h)), none, some (.int (J i)), u] [] (HC z α π β η o od) = Run 108 65 [some (.ref (3)), some (.long (h)), none, some (.int (J i)), some (.int (0))] [] (HC z α π β η o od) := by
      simp only [↓reduceIte, e108_0, e108_3, e108_4, e108_7, e108_10, e108_11, e108_12, e108_13, e108_14, e108_15, e108_16, e108_18, e108_21, e108_24, e108_25, e108_26, e108_27, e108_30, e108_31, e108_34, e108_35, e108_36, e108_37, e108_40, e108_43, e108_44, e108_45, e108_46, e108_47, e108_50, e108_53, e108_56, e108_57, e108_59, e108_62, e108_63, e108_67, e108_69, e108_72, e108_75, e108_76, e108_77, e108_78, e108_81, e108_82, e108_85, e108_88, e108_89, e108_90, e108_92, e108_95, e108_96, e108_97, e108_98, e108_101, e108_104, e108_107, e108_108, e108_109, e108_110, e108_113, e108_114, e108_117, e108_120, e108_121, e108_122, e108_125, e108_126, e108_127, e108_128, e108_131, e108_134, e108_135, e108_138, e108_141, e108_142, e108_143, e108_145, e108_147, e108_148, e108_151, e108_154, e108_155, e108_156, e108_157, e108_160, e108_162, e108_165, e108_166, e108_167, e108_168, e108_171, e108_174, e108_177, e108_178, e108_179, e108_180, e108_183, e108_186, e108_187, e108_188, gf8_0 kd3, gf6_5 kd4, H.hn, J_le (show n < 2147483648 by omega) (show i < 2147483648 by omega), show ¬ n ≤ i by omega, J8, J_le (show 8 < 2147483648 by omega) (show i < 2147483648 by omega), show ¬ 8 ≤ i by omega, aft_v, aft_n, Option.bind_some, rf_some, ck_i, ck_r, ck_n, nb0, nb1, nbi, Nat.reduceAdd, if_true, if_false, not_false_eq_true, not_true_eq_false]
    rw [foldS, ← g1, st, e65]
    simp only [↓reduceIte, e108_0, e108_3, e108_4, e108_7, e108_10, e108_11, e108_12, e108_13, e108_14, e108_15, e108_16, e108_18, e108_21, e108_24, e108_25, e108_26, e108_27, e108_30, e108_31, e108_34, e108_35, e108_36, e108_37, e108_40, e108_43, e108_44, e108_46, e108_47, e108_50, e108_53, e108_56, e108_57, e108_59, e108_62, e108_63, e108_67, e108_69, e108_72, e108_75, e108_76, e108_77, e108_78, e108_81, e108_82, e108_85, e108_88, e108_89, e108_90, e108_92, e108_95, e108_96, e108_97, e108_98, e108_101, e108_104, e108_107, e108_108, e108_109, e108_110, e108_113, e108_114, e108_117, e108_120, e108_121, e108_122, e108_125, e108_126, e108_127, e108_128, e108_131, e108_134, e108_135, e108_138, e108_141, e108_142, e108_143, e108_145, e108_147, e108_148, e108_151, e108_154, e108_155, e108_156, e108_157, e108_160, e108_162, e108_165, e108_166, e108_167, e108_168, e108_171, e108_174, e108_177, e108_178, e108_179, e108_180, e108_183, e108_186, e108_187, e108_188, gf8_0 kd3, gf8_5 kd3, isO_HC kd64 (show 0 ≤ 9 by decide), gf6_7 kd4, gaR21 kd6 (inB_J (show i < 8 by omega) (by omega)), J_tn (show i < 2147483648 by omega), f1, mixF, J_succ, aft_v, aft_n, Option.bind_some, rf_some, ck_i, ck_r, ck_n, nb0, nb1, nbi, Nat.reduceAdd, if_true, if_false, not_false_eq_true, not_true_eq_false]
theorem s108_d {α0 : Mem} (H : Ok α n) (u : Int32) : ∀ k c h, c + k = szN α → Run 108 145 [some (.ref (3)), some (.long (h)), none, some (.int (J (szN α))), some (.int (J c))] [] (HC z α π β η o od) = Run 108 174 [some (.ref (3)), some (.long (foldM (fun c => thingC α n (J c)) k c h)), none, some (.int (J (szN α))), some (.int (J (szN α)))] [] (HC z α π β η o od) := by
  have hsz := H.sz
  intro k
  induction k with
  | zero =>
    intro c h hc
    have : c = szN α := by omega
    subst this
    simp only [↓reduceIte, e108_0, e108_3, e108_4, e108_7, e108_10, e108_11, e108_12, e108_13, e108_14, e108_15, e108_16, e108_18, e108_21, e108_24, e108_25, e108_26, e108_27, e108_30, e108_31, e108_34, e108_35, e108_36, e108_37, e108_40, e108_43, e108_44, e108_45, e108_46, e108_47, e108_50, e108_53, e108_56, e108_57, e108_59, e108_62, e108_63, e108_65, e108_67, e108_69, e108_72, e108_75, e108_76, e108_77, e108_78, e108_81, e108_82, e108_85, e108_88, e108_89, e108_90, e108_92, e108_95, e108_96, e108_97, e108_98, e108_101, e108_104, e108_107, e108_108, e108_109, e108_110, e108_113, e108_114, e108_117, e108_120, e108_121, e108_122, e108_125, e108_126, e108_127, e108_128, e108_131, e108_134, e108_135, e108_138, e108_141, e108_142, e108_143, e108_145, e108_147, e108_148, e108_151, e108_154, e108_155, e108_156, e108_157, e108_160, e108_162, e108_165, e108_166, e108_167, e108_168, e108_171, e108_177, e108_178, e108_179, e108_180, e108_183, e108_186, e108_187, e108_188, Int32.le_refl, foldM, aft_v, aft_n, Option.bind_some, rf_some, ck_i, ck_r, ck_n, nb0, nb1, nbi, Nat.reduceAdd, if_true, if_false, not_false_eq_true, not_true_eq_false]
  | succ k ih =>
    intro c h hc
    have e52 := s52 (z := z) (β := β) (π := π) (η := η) (o := o) (od := od) H (J c)
    rw [foldM, ← ih (c + 1) _ (by omega), e108_145]
    simp only [↓reduceIte, e108_0, e108_3, e108_4, e108_7, e108_10, e108_11, e108_12, e108_13, e108_14, e108_15, e108_16, e108_18, e108_21, e108_24, e108_25, e108_26, e108_27, e108_30, e108_31, e108_34, e108_35, e108_36, e108_37, e108_40, e108_43, e108_44, e108_45, e108_46, e108_47, e108_50, e108_53, e108_56, e108_57, e108_59, e108_62, e108_63, e108_65, e108_67, e108_69, e108_72, e108_75, e108_76, e108_77, e108_78, e108_81, e108_82, e108_85, e108_88, e108_89, e108_90, e108_92, e108_95, e108_96, e108_97, e108_98, e108_101, e108_104, e108_107, e108_108, e108_109, e108_110, e108_113, e108_114, e108_117, e108_120, e108_121, e108_122, e108_125, e108_126, e108_127, e108_128, e108_131, e108_134, e108_135, e108_138, e108_141, e108_142, e108_143, e108_147, e108_148, e108_151, e108_154, e108_155, e108_156, e108_157, e108_160, e108_162, e108_165, e108_166, e108_167, e108_168, e108_171, e108_177, e108_178, e108_179, e108_180, e108_183, e108_186, e108_187, e108_188, J_le (show szN α < 2147483648 by omega) (show c < 2147483648 by omega), show ¬ szN α ≤ c by omega, gf8_0 kd3, isO4, e52, mixF, J_succ, aft_v, aft_n, Option.bind_some, rf_some, ck_i, ck_r, ck_n, nb0, nb1, nbi, Nat.reduceAdd, if_true, if_false, not_false_eq_true, not_true_eq_false]
theorem s108 (H : Ok α n) (hrv : ∀ i, i < n → RV α n i (rv i)) (hl : α 68 1 = J l) (hk : α 15 1 = J k) : ∃ α', Run 108 0 [some (.ref (3)), none, none, none, none] [] (HC z α π β η o od) = some (.inl (some (.long (digC α n rv l k))), HC z α' π β η o od) ∧ Fc α α' := by
  have h8 := H.n8
  have a := s108_a (z := z) (β := β) (π := π) (η := η) (o := o) (od := od) H none 10 0 (mixF 3347 (J l)) (by omega)
  obtain ⟨α', u', b, hF⟩ := s108_c (z := z) (β := β) (π := π) (η := η) (o := o) (od := od) H hrv n 0 α (foldM (valC α n) 10 0 (mixF 3347 (J l))) none (by omega) (Fc_r α)
  have sq := Fc_sq hF
  have H' := Ok_sm (Sm_of h8 sq) H
  have d := s108_d (z := z) (β := β) (π := π) (η := η) (o := o) (od := od) (α0 := α) H' 0 (szN α') 0 (foldS α rv n 0 (foldM (valC α n) 10 0 (mixF 3347 (J l)))) (by omega)
  have e43 := s43 (z := z) (β := β) (π := π) (η := η) (o := o) (od := od) H'
  have efun : (fun c => thingC α' n (J c)) = fun c => thingC α n (J c) := by funext c; rw [thing_sq sq h8]
  rw [H'.sz.1] at e43
  rw [efun] at d
  rw [sz_sq sq] at d e43
  have hk' : α' 15 1 = J k := by rw [hF 15 (by decide)]; exact hk
  rw [show J 0 = (0 : Int32) from rfl] at a b d
  refine ⟨α', ?_, hF⟩
  have c1 : (103757 : Int64) + (J l).toInt64 = mixF 3347 (J l) := by
    unfold mixF
    rw [show (31 : Int64) * 3347 = 103757 by decide]
  have st : Run 108 0 [some (.ref (3)), none, none, none, none] [] (HC z α π β η o od) = Run 108 15 [some (.ref (3)), some (.long (mixF 3347 (J l))), none, some (.int (0)), none] [] (HC z α π β η o od) := by
    simp only [↓reduceIte, e108_0, e108_3, e108_4, e108_7, e108_10, e108_11, e108_12, e108_13, e108_14, e108_16, e108_18, e108_21, e108_24, e108_25, e108_26, e108_27, e108_30, e108_31, e108_34, e108_35, e108_36, e108_37, e108_40, e108_43, e108_44, e108_45, e108_46, e108_47, e108_50, e108_53, e108_56, e108_57, e108_59, e108_62, e108_63, e108_65, e108_67, e108_69, e108_72, e108_75, e108_76, e108_77, e108_78, e108_81, e108_82, e108_85, e108_88, e108_89, e108_90, e108_92, e108_95, e108_96, e108_97, e108_98, e108_101, e108_104, e108_107, e108_108, e108_109, e108_110, e108_113, e108_114, e108_117, e108_120, e108_121, e108_122, e108_125, e108_126, e108_127, e108_128, e108_131, e108_134, e108_135, e108_138, e108_141, e108_142, e108_143, e108_145, e108_147, e108_148, e108_151, e108_154, e108_155, e108_156, e108_157, e108_160, e108_162, e108_165, e108_166, e108_167, e108_168, e108_171, e108_174, e108_177, e108_178, e108_179, e108_180, e108_183, e108_186, e108_187, e108_188, gf8_6 kd3, gf5_1 kd68, hl, c1, aft_v, aft_n, Option.bind_some, rf_some, ck_i, ck_r, ck_n, nb0, nb1, nbi, Nat.reduceAdd, if_true, if_false, not_false_eq_true, not_true_eq_false]
  rw [st, a]
  have st2 : Run 108 43 [some (.ref (3)), some (.long (foldM (valC α n) 10 0 (mixF 3347 (J l)))), none, some (.int (J 10)), none] [] (HC z α π β η o od) = Run 108 45 [some (.ref (3)), some (.long (foldM (valC α n) 10 0 (mixF 3347 (J l)))), none, some (.int (0)), none] [] (HC z α π β η o od) := by
    simp only [↓reduceIte, e108_0, e108_3, e108_4, e108_7, e108_10, e108_11, e108_12, e108_13, e108_14, e108_15, e108_16, e108_18, e108_21, e108_24, e108_25, e108_26, e108_27, e108_30, e108_31, e108_34, e108_35, e108_36, e108_37, e108_40, e108_43, e108_44, e108_46, e108_47, e108_50, e108_53, e108_56, e108_57, e108_59, e108_62, e108_63, e108_65, e108_67, e108_69, e108_72, e108_75, e108_76, e108_77, e108_78, e108_81, e108_82, e108_85, e108_88, e108_89, e108_90, e108_92, e108_95, e108_96, e108_97, e108_98, e108_101, e108_104, e108_107, e108_108, e108_109, e108_110, e108_113, e108_114, e108_117, e108_120, e108_121, e108_122, e108_125, e108_126, e108_127, e108_128, e108_131, e108_134, e108_135, e108_138, e108_141, e108_142, e108_143, e108_145, e108_147, e108_148, e108_151, e108_154, e108_155, e108_156, e108_157, e108_160, e108_162, e108_165, e108_166, e108_167, e108_168, e108_171, e108_174, e108_177, e108_178, e108_179, e108_180, e108_183, e108_186, e108_187, e108_188, aft_v, aft_n, Option.bind_some, rf_some, ck_i, ck_r, ck_n, nb0, nb1, nbi, Nat.reduceAdd, if_true, if_false, not_false_eq_true, not_true_eq_false]
  rw [st2, b]
  have st3 : Run 108 134 [some (.ref (3)), some (.long (foldS α rv n 0 (foldM (valC α n) 10 0 (mixF 3347 (J l))))), none, some (.int (J n)), u'] [] (HC z α' π β η o od) = Run 108 145 [some (.ref (3)), some (.long (foldS α rv n 0 (foldM (valC α n) 10 0 (mixF 3347 (J l))))), none, some (.int (J (szN α))), some (.int (0))] [] (HC z α' π β η o od) := by
    simp only [↓reduceIte, e108_0, e108_3, e108_4, e108_7, e108_10, e108_11, e108_12, e108_13, e108_14, e108_15, e108_16, e108_18, e108_21, e108_24, e108_25, e108_26, e108_27, e108_30, e108_31, e108_34, e108_35, e108_36, e108_37, e108_40, e108_43, e108_44, e108_45, e108_46, e108_47, e108_50, e108_53, e108_56, e108_57, e108_59, e108_62, e108_63, e108_65, e108_67, e108_69, e108_72, e108_75, e108_76, e108_77, e108_78, e108_81, e108_82, e108_85, e108_88, e108_89, e108_90, e108_92, e108_95, e108_96, e108_97, e108_98, e108_101, e108_104, e108_107, e108_108, e108_109, e108_110, e108_113, e108_114, e108_117, e108_120, e108_121, e108_122, e108_125, e108_126, e108_127, e108_128, e108_131, e108_134, e108_135, e108_138, e108_141, e108_142, e108_143, e108_147, e108_148, e108_151, e108_154, e108_155, e108_156, e108_157, e108_160, e108_162, e108_165, e108_166, e108_167, e108_168, e108_171, e108_174, e108_177, e108_178, e108_179, e108_180, e108_183, e108_186, e108_187, e108_188, gf8_0 kd3, isO4, e43, aft_v, aft_n, Option.bind_some, rf_some, ck_i, ck_r, ck_n, nb0, nb1, nbi, Nat.reduceAdd, if_true, if_false, not_false_eq_true, not_true_eq_false]
  rw [st3, d]
  unfold digC
  simp only [↓reduceIte, e108_0, e108_3, e108_4, e108_7, e108_10, e108_11, e108_12, e108_13, e108_14, e108_15, e108_16, e108_18, e108_21, e108_24, e108_25, e108_26, e108_27, e108_30, e108_31, e108_34, e108_35, e108_36, e108_37, e108_40, e108_43, e108_44, e108_45, e108_46, e108_47, e108_50, e108_53, e108_56, e108_57, e108_59, e108_62, e108_63, e108_65, e108_67, e108_69, e108_72, e108_75, e108_76, e108_77, e108_78, e108_81, e108_82, e108_85, e108_88, e108_89, e108_90, e108_92, e108_95, e108_96, e108_97, e108_98, e108_101, e108_104, e108_107, e108_108, e108_109, e108_110, e108_113, e108_114, e108_117, e108_120, e108_121, e108_122, e108_125, e108_126, e108_127, e108_128, e108_131, e108_134, e108_135, e108_138, e108_141, e108_142, e108_143, e108_147, e108_148, e108_151, e108_154, e108_155, e108_156, e108_157, e108_160, e108_162, e108_165, e108_166, e108_167, e108_168, e108_171, e108_174, e108_177, e108_178, e108_179, e108_180, e108_183, e108_186, e108_187, e108_188, gf8_1 kd3, gf4_1 kd15, hk', mixF, aft_v, aft_n, Option.bind_some, rf_some, ck_i, ck_r, ck_n, nb0, nb1, nbi, Nat.reduceAdd, if_true, if_false, not_false_eq_true, not_true_eq_false]
end S71
section S71m
variable {z : Zr} {α β γ : Mem} {π : Nat → Nat} {η : Int64} {o : Nat → Int64} {od : Nat → UInt64} {n l k : Nat} {rv : Nat → Int32}
end S71m
section S71o
variable {z : Zr} {α β γ : Mem} {π : Nat → Nat} {η : Int64} {o : Nat → Int64} {od : Nat → UInt64} {n l k : Nat}
end S71o
