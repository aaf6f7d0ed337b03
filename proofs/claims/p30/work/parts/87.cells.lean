/-! the law's numbers, and its check 'cells' -/
theorem and_max (v : Int32) : ∃ a, a < 2147483648 ∧ v &&& 2147483647 = J a := by
  refine ⟨(v &&& 2147483647).toBitVec.toNat, ?_, ?_⟩
  · have e : (v &&& 2147483647).toBitVec = v.toBitVec &&& 2147483647#32 := rfl
    rw [e, BitVec.toNat_and]
    have := Nat.and_le_right (n := v.toBitVec.toNat) (m := (2147483647#32 : BitVec 32).toNat)
    have e2 : (2147483647#32 : BitVec 32).toNat = 2147483647 := rfl
    omega
  · apply Int32.toBitVec_inj.mp
    show (v &&& 2147483647).toBitVec = BitVec.ofNat 32 (v &&& 2147483647).toBitVec.toNat
    rw [BitVec.ofNat_toNat]
    simp
theorem J_div {a m : Nat} (ha : a < 2147483648) (h0 : 0 < m) (hm : m < 2147483648) : J a / J m = J (a / m) := by
  have h1 : a / m ≤ a := Nat.div_le_self a m
  rw [i32_eq, tidiv (by rw [J_ti ha]; omega) (by rw [J_ti hm]; omega), J_ti ha, J_ti hm, J_ti (by omega)]
  rfl
theorem J_rem {a m : Nat} (ha : a < 2147483648) (h0 : 0 < m) (hm : m < 2147483648) : J a - J a / J m * J m = J (a % m) := by
  have h1 := Nat.div_add_mod a m
  have h2 : a / m * m ≤ a := Nat.div_mul_le_self a m
  rw [J_div ha h0 hm, J_mul, J_sub h2 ha]
  congr 1
  rw [Nat.mul_comm] at h1
  omega
def lowN (v : Int32) (m : Nat) : Nat := (v &&& 2147483647).toNatClampNeg % m
theorem lowN_lt (v : Int32) {m : Nat} (h : 0 < m) : lowN v m < m := Nat.mod_lt _ h
def lotV (z : Zr) (k : Nat) : Int32 := if k < z.2.2.1 then z.2.2.2 k else 1775225781 * (J k + 1847) + 1627
theorem z10 : ¬ (10 : Int32) = 0 := by decide
theorem z6 : ¬ (6 : Int32) = 0 := by decide
section S87
variable {z : Zr} {α β γ : Mem} {π : Nat → Nat} {η : Int64} {o : Nat → Int64} {od : Nat → UInt64} {n k : Nat}
theorem t120 (v : Int32) {m : Nat} (h0 : 0 < m) (hm : m < 2147483648) : Run 120 0 [some (.int (v)), some (.int (J m))] [] (HC z α π β η o od) = some (.inl (some (.int (J (lowN v m)))), (HC z α π β η o od)) := by
  have hz : ¬ J m = 0 := by rw [i32_eq, J_ti hm, ti0]; omega
  obtain ⟨a, ha, e⟩ := and_max v
  have e2 : lowN v m = a % m := by unfold lowN; rw [e, J_tn ha]
  simp only [↓reduceIte, e120_0, e120_1, e120_3, e120_4, e120_6, e120_5 hz, e, J_rem ha h0 hm, e2, aft_v, aft_n, Option.bind_some, rf_some, ck_i, ck_r, ck_n, nb0, nb1, nbi, Nat.reduceAdd, if_true, if_false, not_false_eq_true, not_true_eq_false]
theorem t120_2 (v : Int32) : Run 120 0 [some (.int (v)), some (.int (2))] [] (HC z α π β η o od) = some (.inl (some (.int (J (lowN v 2)))), (HC z α π β η o od)) := t120 v (m := 2) (by decide) (by decide)
theorem t120_3 (v : Int32) : Run 120 0 [some (.int (v)), some (.int (3))] [] (HC z α π β η o od) = some (.inl (some (.int (J (lowN v 3)))), (HC z α π β η o od)) := t120 v (m := 3) (by decide) (by decide)
theorem t120_4 (v : Int32) : Run 120 0 [some (.int (v)), some (.int (4))] [] (HC z α π β η o od) = some (.inl (some (.int (J (lowN v 4)))), (HC z α π β η o od)) := t120 v (m := 4) (by decide) (by decide)
theorem t120_6 (v : Int32) : Run 120 0 [some (.int (v)), some (.int (6))] [] (HC z α π β η o od) = some (.inl (some (.int (J (lowN v 6)))), (HC z α π β η o od)) := t120 v (m := 6) (by decide) (by decide)
theorem t120_13 (v : Int32) : Run 120 0 [some (.int (v)), some (.int (13))] [] (HC z α π β η o od) = some (.inl (some (.int (J (lowN v 13)))), (HC z α π β η o od)) := t120 v (m := 13) (by decide) (by decide)
theorem t120_16 (v : Int32) : Run 120 0 [some (.int (v)), some (.int (16))] [] (HC z α π β η o od) = some (.inl (some (.int (J (lowN v 16)))), (HC z α π β η o od)) := t120 v (m := 16) (by decide) (by decide)
theorem t120_30 (v : Int32) : Run 120 0 [some (.int (v)), some (.int (30))] [] (HC z α π β η o od) = some (.inl (some (.int (J (lowN v 30)))), (HC z α π β η o od)) := t120 v (m := 30) (by decide) (by decide)
theorem t120_50 (v : Int32) : Run 120 0 [some (.int (v)), some (.int (50))] [] (HC z α π β η o od) = some (.inl (some (.int (J (lowN v 50)))), (HC z α π β η o od)) := t120 v (m := 50) (by decide) (by decide)
theorem t119 (hL : z.2.2.1 ≤ 260) {k : Nat} (hk : k < 1000) : Run 119 0 [some (.ref (0)), some (.int (J k))] [] (HC z α π β η o od) = some (.inl (some (.int (lotV z k))), (HC z α π β η o od)) := by
  by_cases q : k < z.2.2.1
  · have l0 : ¬ Int32.ofNat z.2.2.1 ≤ J k := by rw [J_le (by omega) (by omega)]; omega
    have hi : inB (J k) z.2.2.1 = true := inB_J q (by omega)
    have e : lotV z k = z.2.2.2 k := by unfold lotV; rw [if_pos q]
    simp only [↓reduceIte, e119_0, e119_1, e119_2, e119_3, e119_6, e119_7, e119_8, e119_9, e119_12, e119_14, e119_15, e119_18, e119_19, e119_20, e119_23, e119_24, alen0, l0, gaI0 hi, J_tn (show k < 2147483648 by omega), e, aft_v, aft_n, Option.bind_some, rf_some, ck_i, ck_r, ck_n, nb0, nb1, nbi, Nat.reduceAdd, if_true, if_false, not_false_eq_true, not_true_eq_false]
  · have l0 : Int32.ofNat z.2.2.1 ≤ J k := by rw [J_le (by omega) (by omega)]; omega
    have e : lotV z k = 1775225781 * (J k + 1847) + 1627 := by unfold lotV; rw [if_neg q]
    simp only [↓reduceIte, e119_0, e119_1, e119_2, e119_3, e119_6, e119_7, e119_8, e119_9, e119_12, e119_14, e119_15, e119_18, e119_19, e119_20, e119_23, e119_24, alen0, l0, e, aft_v, aft_n, Option.bind_some, rf_some, ck_i, ck_r, ck_n, nb0, nb1, nbi, Nat.reduceAdd, if_true, if_false, not_false_eq_true, not_true_eq_false]
theorem t145 (H : Ok α n) (x : Int32) : Run 145 0 [some (.ref (3)), some (.int (x)), none, none, none, none, none, none, none, none] [] (HC z α π β η o od) = some (.inl (some (.int (1))), (HC z α π β η o od)) := by
  have hs := H.sz
  have hw := H.wh
  have h0 : 0 < szN α := by
    have h1 : (α 4 0 * α 4 1).toInt = szN α := by rw [hs.1]; exact J_ti (by omega)
    omega
  have l1 := t120 (z := z) (α := α) (π := π) (β := β) (η := η) (o := o) (od := od) x h0 (by omega)
  have l2 := t120 (z := z) (α := α) (π := π) (β := β) (η := η) (o := o) (od := od) (x >>> (8 &&& 31)) h0 (by omega)
  have l3 := t120 (z := z) (α := α) (π := π) (β := β) (η := η) (o := o) (od := od) (x >>> (16 &&& 31)) h0 (by omega)
  have b1 := lowN_lt x h0
  have b2 := lowN_lt (x >>> (8 &&& 31)) h0
  have b3 := lowN_lt (x >>> (16 &&& 31)) h0
  generalize lowN x (szN α) = a at l1 b1
  generalize lowN (x >>> (8 &&& 31)) (szN α) = b at l2 b2
  generalize lowN (x >>> (16 &&& 31)) (szN α) = c at l3 b3
  have ca := rock_lt H b1
  have cb := rock_lt H b2
  have cc := rock_lt H b3
  have d1 := fr_sym H ca cb
  have d2 := fr_zero H ca cb
  have d3 := fr_tri H ca cb cc
  have w0 : Run 145 0 [some (.ref (3)), some (.int (x)), none, none, none, none, none, none, none, none] [] (HC z α π β η o od) = Run 145 56 [some (.ref (3)), some (.int (x)), some (.int (J (szN α))), some (.int (J a)), some (.int (J b)), some (.int (J c)), some (.int (sgC α (J a) (J b))), some (.int (sgC α (J b) (J a))), none, none] [] (HC z α π β η o od) := by
    simp only [↓reduceIte, e145_0, e145_1, e145_2, e145_5, e145_6, e145_7, e145_10, e145_11, e145_12, e145_13, e145_14, e145_17, e145_18, e145_19, e145_21, e145_22, e145_23, e145_26, e145_28, e145_29, e145_31, e145_32, e145_33, e145_36, e145_38, e145_39, e145_40, e145_42, e145_45, e145_47, e145_48, e145_50, e145_51, e145_54, t125_0 H, t125_1 H, hs.1, l1, l2, l3, t129 H ca cb, t129 H cb ca, aft_v, aft_n, Option.bind_some, rf_some, ck_i, ck_r, ck_n, nb0, nb1, nbi, Nat.reduceAdd, if_true, if_false, not_false_eq_true, not_true_eq_false]
  rw [w0]
  by_cases hab : J a = J b
  · rw [← hab] at d1 d2 d3 ⊢
    have f0 := d2.mpr rfl
    have s0 := sg_self α (J a)
    have m1 : (-1 : Int32) ≤ 9 := by decide
    have m2 : ¬ (16 : Int32) ≤ -1 := by decide
    have m3 : (-1 : Int32) < 6 := by decide
    rw [s0]
    rw [f0] at d3
    simp only [↓reduceIte, e145_56, e145_58, e145_60, e145_63, e145_64, e145_67, e145_68, e145_70, e145_71, e145_73, e145_76, e145_77, e145_80, e145_82, e145_84, e145_85, e145_86, e145_87, e145_89, e145_90, e145_92, e145_95, e145_97, e145_100, e145_101, e145_102, e145_104, e145_105, e145_106, e145_108, e145_111, e145_112, e145_114, e145_115, e145_118, e145_121, e145_122, e145_123, e145_125, e145_128, e145_131, e145_132, e145_135, e145_136, e145_137, e145_139, e145_142, e145_143, e145_146, e145_147, e145_150, e145_151, e145_152, e145_154, e145_157, e145_158, e145_159, e145_161, e145_164, e145_165, e145_167, e145_169, e145_172, e145_173, e145_176, e145_178, e145_179, e145_182, e145_183, e145_186, e145_187, e145_188, e145_190, e145_193, e145_194, e145_197, e145_198, e145_201, e145_203, e145_205, e145_208, e145_210, e145_212, e145_215, e145_217, e145_219, e145_222, e145_224, e145_226, e145_229, e145_230, e145_233, e145_234, t128 H ca ca, t128 H ca cc, d3, eq_true f0, f0, m1, m2, m3, eq_self, aft_v, aft_n, Option.bind_some, rf_some, ck_i, ck_r, ck_n, nb0, nb1, nbi, Nat.reduceAdd, if_true, if_false, not_false_eq_true, not_true_eq_false]
  · obtain ⟨o1, o2, o3, o4⟩ := sg_opp H ca cb hab
    have f0 : ¬ frC α (J a) (J b) = 0 := fun w => hab (d2.mp w)
    have m2 : ¬ (16 : Int32) ≤ sgC α (J a) (J b) := by rw [le_not]; exact fun w => w o1
    unfold oppC at o4
    by_cases g : 9 < sgC α (J a) (J b)
    · have m1 : ¬ sgC α (J a) (J b) ≤ 9 := by rw [le_not]; exact fun w => w g
      have m3 : ¬ sgC α (J a) (J b) < 6 := by rw [i32_lt, show (9 : Int32).toInt = 9 from rfl] at g; rw [i32_lt, ti6]; omega
      rw [if_pos g] at o4
      rw [o4]
      simp only [↓reduceIte, e145_56, e145_58, e145_60, e145_63, e145_64, e145_67, e145_68, e145_70, e145_71, e145_73, e145_76, e145_77, e145_80, e145_82, e145_84, e145_85, e145_86, e145_87, e145_89, e145_90, e145_92, e145_95, e145_97, e145_100, e145_101, e145_102, e145_104, e145_105, e145_106, e145_108, e145_111, e145_112, e145_114, e145_115, e145_118, e145_121, e145_122, e145_123, e145_125, e145_128, e145_131, e145_132, e145_135, e145_136, e145_137, e145_139, e145_142, e145_143, e145_146, e145_147, e145_150, e145_151, e145_152, e145_154, e145_157, e145_158, e145_159, e145_161, e145_164, e145_165, e145_167, e145_169, e145_172, e145_173, e145_176, e145_178, e145_179, e145_182, e145_183, e145_186, e145_187, e145_188, e145_190, e145_193, e145_194, e145_197, e145_198, e145_201, e145_203, e145_205, e145_208, e145_210, e145_212, e145_215, e145_217, e145_219, e145_222, e145_224, e145_226, e145_229, e145_230, e145_233, e145_234, z10, z6, t128 H ca cb, t128 H cb ca, t128 H ca cc, t128 H cb cc, d1.symm, d3, f0, m1, m2, m3, eq_false o2, hab, i1_0, eq_self, aft_v, aft_n, Option.bind_some, rf_some, ck_i, ck_r, ck_n, nb0, nb1, nbi, Nat.reduceAdd, if_true, if_false, not_false_eq_true, not_true_eq_false]
    · have m1 : sgC α (J a) (J b) ≤ 9 := by rw [le_not]; exact g
      have m3 : sgC α (J a) (J b) < 6 := o3.resolve_right g
      rw [if_neg g] at o4
      rw [o4]
      simp only [↓reduceIte, e145_56, e145_58, e145_60, e145_63, e145_64, e145_67, e145_68, e145_70, e145_71, e145_73, e145_76, e145_77, e145_80, e145_82, e145_84, e145_85, e145_86, e145_87, e145_89, e145_90, e145_92, e145_95, e145_97, e145_100, e145_101, e145_102, e145_104, e145_105, e145_106, e145_108, e145_111, e145_112, e145_114, e145_115, e145_118, e145_121, e145_122, e145_123, e145_125, e145_128, e145_131, e145_132, e145_135, e145_136, e145_137, e145_139, e145_142, e145_143, e145_146, e145_147, e145_150, e145_151, e145_152, e145_154, e145_157, e145_158, e145_159, e145_161, e145_164, e145_165, e145_167, e145_169, e145_172, e145_173, e145_176, e145_178, e145_179, e145_182, e145_183, e145_186, e145_187, e145_188, e145_190, e145_193, e145_194, e145_197, e145_198, e145_201, e145_203, e145_205, e145_208, e145_210, e145_212, e145_215, e145_217, e145_219, e145_222, e145_224, e145_226, e145_229, e145_230, e145_233, e145_234, z10, z6, t128 H ca cb, t128 H cb ca, t128 H ca cc, t128 H cb cc, d1.symm, d3, f0, m1, m2, m3, eq_false o2, hab, eq_self, aft_v, aft_n, Option.bind_some, rf_some, ck_i, ck_r, ck_n, nb0, nb1, nbi, Nat.reduceAdd, if_true, if_false, not_false_eq_true, not_true_eq_false]
end S87
