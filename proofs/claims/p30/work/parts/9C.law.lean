/-! the law -/
theorem lowN_6 (v : Int32) : lowN v 6 < 6 := lowN_lt v (by decide)
section S9C
variable {z : Zr} {α β γ : Mem} {π : Nat → Nat} {η : Int64} {o : Nat → Int64} {od : Nat → UInt64} {n k : Nat}
theorem law_a (G : Gs α π 0 0) (hL : z.2.2.1 ≤ 260) : ∃ w z' α' π' k', Run 152 8 [some (.ref (0)), some (.ref (3)), none, none, none, none, none, none, none, none, none, none, none, none] [] (HC z α π β η o od) = Run 152 81 [some (.ref 0), some (.ref 3), some (.int w), some (.int (J 0)), none, none, none, none, none, none, none, none, none, none] [] (HC z' α' π' β η o od) ∧ Zk z z' 30 ∧ Gs α' π' 0 k' := by
  have q0 := t119 (z := z) (α := α) (π := π) (β := β) (η := η) (o := o) (od := od) hL (show 0 < 1000 by decide)
  rw [j0] at q0
  obtain ⟨z1, α1, q1, Z1, F1⟩ := t151 (z := z) (β := β) (η := η) (o := o) (od := od) G
  have G1 := Gs_fc G F1
  have q2 := t143_x (z := z1) (π := π) (β := β) (η := η) (o := o) (od := od) G1.hk
  obtain ⟨α2, q3, D⟩ := t106 (z := zb z1) (β := β) (η := η) (o := o) (od := od) G1
  obtain ⟨α3, q, hq, q4, -, -, G3, -⟩ := t143u (z := zb z1) (β := β) (η := η) (o := o) (od := od) G1 D
  have q5 : q = 0 := by have h0 : saveK 0 = 0 := rfl; omega
  subst q5
  rw [j0] at q4
  obtain ⟨α4, π4, k4, q6, G4⟩ := t121 (z := zb z1) (β := β) (η := η) (o := o) (od := od) G3 (lowN_6 (lotV z 0)) (lowN_6 (lotV z 0 >>> (4 &&& 31)))
  rw [j0] at q6
  refine ⟨lotV z 0, zb z1, α4, π4, k4, ?_, Zk_b Z1, G4⟩
  rw [j0]
  simp only [↓reduceIte, e152_8, e152_9, e152_10, e152_13, e152_14, e152_15, e152_18, e152_21, e152_22, e152_25, e152_28, e152_31, e152_32, e152_35, e152_38, e152_39, e152_42, e152_45, e152_46, e152_49, e152_52, e152_53, e152_54, e152_55, e152_57, e152_60, e152_61, e152_62, e152_63, e152_64, e152_65, e152_67, e152_70, e152_71, e152_74, e152_77, e152_78, e152_79, e152_80, isO3, q0, q1, q2, t144 G1.1, q3, q4, t120_6, q6, i1_0, eq_self, aft_v, aft_n, Option.bind_some, rf_some, ck_i, ck_r, ck_n, nb0, nb1, nbi, Nat.reduceAdd, if_true, if_false, not_false_eq_true, not_true_eq_false]
theorem law_l (w : Int32) : ∀ m t z α π n k (u4 u5 u6 u7 u8 u9 u10 u11 u12 u13 : Option Value), t + m = 64 → Gs α π n k → z.2.2.1 ≤ 260 → ∃ z' α' π' n' k' a4 a5 a6 a7 a8 a9 a10 a11 a12 a13, Run 152 81 [some (.ref (0)), some (.ref (3)), some (.int (w)), some (.int (J t)), u4, u5, u6, u7, u8, u9, u10, u11, u12, u13] [] (HC z α π β η o od) = Run 152 81 [some (.ref 0), some (.ref 3), some (.int w), some (.int (J 64)), a4, a5, a6, a7, a8, a9, a10, a11, a12, a13] [] (HC z' α' π' β η o od) ∧ Zk z z' (3 * m) ∧ Gs α' π' n' k' := by
  intro m
  induction m with
  | zero =>
    intro t z α π n k u4 u5 u6 u7 u8 u9 u10 u11 u12 u13 ht G hL
    have e : t = 64 := by omega
    subst e
    exact ⟨z, α, π, n, k, u4, u5, u6, u7, u8, u9, u10, u11, u12, u13, rfl, Zk_r z, G⟩
  | succ m ih =>
    intro t z α π n k u4 u5 u6 u7 u8 u9 u10 u11 u12 u13 ht G hL
    obtain ⟨z1, α1, π1, n1, k1, a4, a5, a6, a7, a8, a9, a10, a11, a12, a13, w1, Z1, G1⟩ := t152_t (z := z) (β := β) (η := η) (o := o) (od := od) G hL (show t < 64 by omega) w u4 u5 u6 u7 u8 u9 u10 u11 u12 u13
    obtain ⟨z2, α2, π2, n2, k2, b4, b5, b6, b7, b8, b9, b10, b11, b12, b13, w2, Z2, G2⟩ := ih (t + 1) z1 α1 π1 n1 k1 a4 a5 a6 a7 a8 a9 a10 a11 a12 a13 (by omega) G1 (by rw [Z1.2.2]; exact hL)
    exact ⟨z2, α2, π2, n2, k2, b4, b5, b6, b7, b8, b9, b10, b11, b12, b13, w1.trans w2, Zk_le (Zk_t Z1 Z2) (by omega), G2⟩
theorem law_z (G : Gs α π n k) (w : Int32) (u4 u5 u6 u7 u8 u9 u10 u11 u12 u13 : Option Value) : ∃ z' α', Run 152 81 [some (.ref (0)), some (.ref (3)), some (.int (w)), some (.int (J 64)), u4, u5, u6, u7, u8, u9, u10, u11, u12, u13] [] (HC z α π β η o od) = some (.inl (some (.int 1)), HC z' α' π β η o od) ∧ Zk z z' 29 := by
  obtain ⟨z1, α1, q1, Z1, F1⟩ := t151 (z := z) (β := β) (η := η) (o := o) (od := od) G
  refine ⟨z1, α1, ?_, Z1⟩
  have l0 : (64 : Int32) ≤ J 64 := by decide
  simp only [↓reduceIte, e152_81, e152_82, e152_84, e152_87, e152_88, e152_89, e152_90, e152_91, e152_92, e152_93, e152_709, e152_710, e152_713, l0, q1, aft_v, aft_n, Option.bind_some, rf_some, ck_i, ck_r, ck_n, nb0, nb1, nbi, Nat.reduceAdd, if_true, if_false, not_false_eq_true, not_true_eq_false]
theorem law_all (G : Gs α π 0 0) (hL : z.2.2.1 ≤ 260) : ∃ z' α' π', Run 152 8 [some (.ref (0)), some (.ref (3)), none, none, none, none, none, none, none, none, none, none, none, none] [] (HC z α π β η o od) = some (.inl (some (.int 1)), HC z' α' π' β η o od) ∧ Zk z z' 251 := by
  obtain ⟨w, z1, α1, π1, k1, w1, Z1, G1⟩ := law_a (z := z) (β := β) (η := η) (o := o) (od := od) G hL
  obtain ⟨z2, α2, π2, n2, k2, a4, a5, a6, a7, a8, a9, a10, a11, a12, a13, w2, Z2, G2⟩ := law_l (β := β) (η := η) (o := o) (od := od) w 64 0 z1 α1 π1 0 k1 none none none none none none none none none none (by omega) G1 (by rw [Z1.2.2]; exact hL)
  obtain ⟨z3, α3, w3, Z3⟩ := law_z (z := z2) (β := β) (η := η) (o := o) (od := od) G2 w a4 a5 a6 a7 a8 a9 a10 a11 a12 a13
  exact ⟨z3, α3, π2, w1.trans (w2.trans w3), Zk_le (Zk_t (Zk_t Z1 Z2) Z3) (by omega)⟩
end S9C
theorem owed : Owed := by
  intro L xs hL
  obtain ⟨cc, ss, h1, h2, w1⟩ := law_start L xs
  obtain ⟨z', α', π', w2, Z⟩ := law_all (z := (cc, ss, L, xs)) (β := β00) (η := 0) (o := fun _ => 0) (od := fun _ => 0) Gs_00 hL
  refine ⟨_, w1.trans w2, ?_, ?_⟩
  · have := Z.1
    show z'.1 ≤ 600074
    dsimp only at this
    omega
  · have := Z.2.1
    show z'.2.1 ≤ 7301550
    dsimp only at this
    omega
