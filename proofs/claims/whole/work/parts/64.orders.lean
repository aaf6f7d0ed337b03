/-! orders: carried out -/
def obeyF (α : Mem) (n : Nat) (f s : Int32) : Option Mem :=
  if f = 101 then some (finC α n) else if f = 119 then some (up2 α 4 2 (s - 48)) else
  if isShipC α 4 (f - 48) then (if s = 97 then (if canMoveC α n (f - 48).toNatClampNeg then some (moveC α (f - 48).toNatClampNeg) else none) else (if canSwingC α (f - 48).toNatClampNeg (bi (s = 114)) then some (swingC α (7 + (f - 48).toNatClampNeg) (J (hdN (hdA α (7 + (f - 48).toNatClampNeg)) (bi (s = 114))))) else none)) else none
def exF (tx : Nat → Int32) (l n : Nat) : Nat → Mem → Nat → Int32 → Mem × Int32
  | 0, α, _, d => (α, d)
  | k + 1, α, i, d => if i < l then (match obeyF α n (byT tx l i) (byT tx l (i + 1)) with | none => (α, d) | some α' => exF tx l n k α' (i + (if byT tx l i = 101 then 2 else 3)) (d + 1)) else (α, d)
theorem obey_end {α : Mem} {n : Nat} (H : Ok α n) (D : Dj α n) {f s : Int32} (hv : f = 119 → dg 5 s) {α' : Mem} (h : obeyF α n f s = some α') : Ok α' n ∧ Dj α' n ∧ Fs α α' := by
  have h8 := H.n8
  unfold obeyF at h
  by_cases q1 : f = 101
  · rw [if_pos q1] at h
    cases h
    exact ⟨Ok_fin H, Dj_fin H D, Fs_fin h8⟩
  rw [if_neg q1] at h
  by_cases q2 : f = 119
  · rw [if_pos q2] at h
    cases h
    have w := hv q2
    rw [dg_5, i32_le, i32_le] at w
    have t48 : (48 : Int32).toInt = 48 := rfl
    have t53 : (53 : Int32).toInt = 53 := rfl
    have e := sub_ti (x := s) (y := 48) (by omega) (by omega)
    obtain ⟨e1, he, ee⟩ := J_rng (v := s - 48) (k := 6) (by omega) (by omega)
    rw [ee]
    exact ⟨Ok_wind H he, Dj_4 D (by decide), Fs_up _ (by decide) _ _⟩
  rw [if_neg q2] at h
  by_cases q3 : isShipC α 4 (f - 48)
  · rw [if_pos q3] at h
    obtain ⟨i, hi, e⟩ := isShip_ex H.hn h8 q3
    rw [e, J_tn (by omega)] at h
    by_cases q4 : s = 97
    · rw [if_pos q4] at h
      by_cases q5 : canMoveC α n i
      · rw [if_pos q5] at h
        cases h
        exact ⟨Ok_move H hi q5, Dj_move H D q5, Fs_move _ (by omega)⟩
      · rw [if_neg q5] at h; cases h
    · rw [if_neg q4] at h
      by_cases q5 : canSwingC α i (bi (s = 114))
      · rw [if_pos q5] at h
        cases h
        exact ⟨Ok_swing H hi q5, Dj_swing D _ _, Fs_swing _ (by omega) _⟩
      · rw [if_neg q5] at h; cases h
  · rw [if_neg q3] at h; cases h
theorem okT_v {tx : Nat → Int32} {l i : Nat} (h : okT tx l i) : byT tx l i = 119 → dg 5 (byT tx l (i + 1)) := by
  intro w
  unfold okT at h
  rw [if_pos w] at h
  exact h.1
theorem okT_l {tx : Nat → Int32} {l i : Nat} (h : okT tx l i) (h1 : ¬ byT tx l i = 119) (h2 : ¬ byT tx l i = 101) : ltr (byT tx l (i + 1)) := by
  unfold okT at h
  rw [if_neg h1, if_neg h2] at h
  exact h.2.1
theorem ok_le (tx : Nat → Int32) (l i : Nat) (h : i < l) : nxT tx l i ≤ i + 3 := by
  unfold nxT
  (repeat' split) <;> omega
section S64
variable {z : Zr} {α β γ : Mem} {π : Nat → Nat} {η : Int64} {o : Nat → Int64} {od : Nat → UInt64} {n l k : Nat}
theorem s26_o (H : Ok α n) (f s : Int32) : Run 26 0 [some (.ref (61)), some (.int (f)), some (.int (s)), none, none] [] (HC z α π β η o od) = match obeyF α n f s with | some α' => some (.inl (some (.int (1))), (HC z α' π β η o od)) | none => some (.inl (some (.int (0))), (HC z α π β η o od)) := by
  have h8 := H.n8
  unfold obeyF
  by_cases q1 : f = 101
  · subst q1
    rw [if_pos rfl]
    exact s26_e H s
  rw [if_neg q1]
  by_cases q2 : f = 119
  · subst q2
    rw [if_pos rfl]
    exact s26_w s
  rw [if_neg q2]
  by_cases q3 : isShipC α 4 (f - 48)
  · rw [if_pos q3]
    obtain ⟨i, hi, e⟩ := isShip_ex H.hn h8 q3
    rw [e, J_tn (by omega)]
    by_cases q4 : s = 97
    · subst q4
      rw [if_pos rfl, s26_a H f q1 q2 hi e]
      by_cases q5 : canMoveC α n i
      · rw [if_pos q5, if_pos q5]
      · rw [if_neg q5, if_neg q5]
    · rw [if_neg q4, s26_t H f s q1 q2 q4 hi e]
      by_cases q5 : canSwingC α i (bi (s = 114))
      · rw [if_pos q5, if_pos q5]
      · rw [if_neg q5, if_neg q5]
  · rw [if_neg q3]
    exact s26_n f s q1 q2 q3
theorem s107_l {α0 : Mem} (h150 : l ≤ 150) (er : Int32) : ∀ k i (α : Mem) (d : Int32), l ≤ i + k → i ≤ l → errF α0 l (l - i) i 0 = -1 → Ok α n → Dj α n → α 69 = α0 69 → α 68 1 = J l → Run 107 33 [some (.ref (3)), some (.int (er)), some (.int (d)), some (.int (J i))] [] (HC z α π β η o od) = some (.inl (some (.int ((exF (α0 69) l n k α i d).2))), (HC z (exF (α0 69) l n k α i d).1 π β η o od)) := by
  intro k
  induction k with
  | zero =>
    intro i α d h1 h2 hV H D h69 h68
    have : i = l := by omega
    subst this
    simp only [↓reduceIte, e107_0, e107_1, e107_4, e107_7, e107_8, e107_9, e107_10, e107_13, e107_15, e107_16, e107_17, e107_18, e107_19, e107_22, e107_23, e107_26, e107_29, e107_30, e107_31, e107_32, e107_33, e107_34, e107_35, e107_38, e107_41, e107_44, e107_45, e107_48, e107_49, e107_52, e107_53, e107_56, e107_57, e107_60, e107_61, e107_62, e107_63, e107_66, e107_69, e107_72, e107_73, e107_74, e107_77, e107_78, e107_79, e107_82, e107_83, e107_86, e107_88, e107_91, e107_92, e107_95, e107_96, e107_97, e107_98, e107_101, e107_102, gf8_6 kd3, gf5_1 kd68, h68, Int32.le_refl, exF, aft_v, aft_n, Option.bind_some, rf_some, ck_i, ck_r, ck_n, nb0, nb1, nbi, Nat.reduceAdd, if_true, if_false, not_false_eq_true, not_true_eq_false]
  | succ k ih =>
    intro i α d h1 h2 hV H D h69 h68
    by_cases hil : i < l
    · have ero := err_or (α := α0) hil
      have hok : okT (α0 69) l i := by
        by_cases w : okT (α0 69) l i
        · exact w
        · rw [ero.2 w] at hV
          have hle := ok_le (α0 69) l i hil
          exact absurd hV (Jm1 (by omega))
      have hx := ok_nx hok
      rw [ero.1 hok] at hV
      have b0 : byF α l i = byT (α0 69) l i := by unfold byF byT; rw [h69]
      have b1 : byF α l (i + 1) = byT (α0 69) l (i + 1) := by unfold byF byT; rw [h69]
      have e36 := s36 (z := z) (β := β) (π := π) (η := η) (o := o) (od := od) h68 h150 (show i < 1000 by omega)
      have e36' := s36 (z := z) (β := β) (π := π) (η := η) (o := o) (od := od) h68 h150 (show i + 1 < 1000 by omega)
      rw [b0] at e36
      rw [b1] at e36'
      have e26 := s26_o (z := z) (β := β) (π := π) (η := η) (o := o) (od := od) H (byT (α0 69) l i) (byT (α0 69) l (i + 1))
      rw [exF, if_pos hil]
      cases ho : obeyF α n (byT (α0 69) l i) (byT (α0 69) l (i + 1)) with
      | none =>
        rw [ho] at e26
        dsimp only at e26
        rw [e107_33]
        simp only [↓reduceIte, e107_0, e107_1, e107_4, e107_7, e107_8, e107_9, e107_10, e107_13, e107_15, e107_16, e107_17, e107_18, e107_19, e107_22, e107_23, e107_26, e107_29, e107_30, e107_31, e107_32, e107_34, e107_35, e107_38, e107_41, e107_44, e107_45, e107_48, e107_49, e107_52, e107_53, e107_56, e107_57, e107_60, e107_61, e107_62, e107_63, e107_66, e107_69, e107_72, e107_73, e107_74, e107_77, e107_78, e107_79, e107_82, e107_83, e107_86, e107_88, e107_91, e107_92, e107_95, e107_96, e107_97, e107_98, e107_101, e107_102, gf8_6 kd3, gf8_2 kd3, gf5_1 kd68, h68, J_le (show l < 2147483648 by omega) (show i < 2147483648 by omega), show ¬ l ≤ i by omega, isO68, isO61, e36, J_succ, e36', e26, aft_v, aft_n, Option.bind_some, rf_some, ck_i, ck_r, ck_n, nb0, nb1, nbi, Nat.reduceAdd, if_true, if_false, not_false_eq_true, not_true_eq_false]
      | some α' =>
        rw [ho] at e26
        dsimp only at e26
        obtain ⟨H', D', F'⟩ := obey_end H D (okT_v hok) ho
        have g69 : α' 69 = α0 69 := by rw [F' 69 (by decide) (by decide)]; exact h69
        have g68 : α' 68 1 = J l := by rw [F' 68 (by decide) (by decide)]; exact h68
        have b0' : byF α' l i = byT (α0 69) l i := by unfold byF byT; rw [g69]
        have e36'' := s36 (z := z) (β := β) (π := π) (η := η) (o := o) (od := od) g68 h150 (show i < 1000 by omega)
        rw [b0'] at e36''
        dsimp only
        have J2 : (2 : Int32) = J 2 := rfl
        by_cases w : byT (α0 69) l i = 101
        · have en : nxT (α0 69) l i = i + 2 := hx.2.2.2.2.1 w
          rw [en] at hV hx
          rw [if_pos w, ← ih (i + 2) α' (d + 1) (by omega) hx.1 hV H' D' g69 g68, e107_33]
          rw [w] at e36 e36'' e26
          simp only [↓reduceIte, e107_0, e107_1, e107_4, e107_7, e107_8, e107_9, e107_10, e107_13, e107_15, e107_16, e107_17, e107_18, e107_19, e107_22, e107_23, e107_26, e107_29, e107_30, e107_31, e107_32, e107_34, e107_35, e107_38, e107_41, e107_44, e107_45, e107_48, e107_49, e107_52, e107_53, e107_56, e107_57, e107_60, e107_61, e107_62, e107_63, e107_66, e107_69, e107_72, e107_73, e107_74, e107_77, e107_78, e107_79, e107_82, e107_83, e107_86, e107_88, e107_91, e107_92, e107_95, e107_96, e107_97, e107_98, e107_101, e107_102, gf8_6 kd3, gf8_2 kd3, gf5_1 kd68, h68, J_le (show l < 2147483648 by omega) (show i < 2147483648 by omega), show ¬ l ≤ i by omega, isO68, isO61, e36, J_succ, e36', e26, e36'', i1_0, J2, J_add, aft_v, aft_n, Option.bind_some, rf_some, ck_i, ck_r, ck_n, nb0, nb1, nbi, Nat.reduceAdd, if_true, if_false, not_false_eq_true, not_true_eq_false]
        · have en : nxT (α0 69) l i = i + 3 := by
            by_cases w2 : byT (α0 69) l i = 119
            · exact hx.2.2.2.1 w2
            · exact hx.2.2.2.2.2 w2 w
          rw [en] at hV hx
          rw [if_neg w, ← ih (i + 3) α' (d + 1) (by omega) hx.1 hV H' D' g69 g68, e107_33]
          simp only [↓reduceIte, e107_0, e107_1, e107_4, e107_7, e107_8, e107_9, e107_10, e107_13, e107_15, e107_16, e107_17, e107_18, e107_19, e107_22, e107_23, e107_26, e107_29, e107_30, e107_31, e107_32, e107_34, e107_35, e107_38, e107_41, e107_44, e107_45, e107_48, e107_49, e107_52, e107_53, e107_56, e107_57, e107_60, e107_61, e107_62, e107_63, e107_66, e107_69, e107_72, e107_73, e107_74, e107_77, e107_78, e107_79, e107_82, e107_83, e107_86, e107_88, e107_91, e107_92, e107_95, e107_96, e107_97, e107_98, e107_101, e107_102, gf8_6 kd3, gf8_2 kd3, gf5_1 kd68, h68, J_le (show l < 2147483648 by omega) (show i < 2147483648 by omega), show ¬ l ≤ i by omega, isO68, isO61, e36, J_succ, e36', e26, e36'', w, i1_0, J3, J_add, aft_v, aft_n, Option.bind_some, rf_some, ck_i, ck_r, ck_n, nb0, nb1, nbi, Nat.reduceAdd, if_true, if_false, not_false_eq_true, not_true_eq_false]
    · have : i = l := by omega
      subst this
      rw [exF, if_neg hil]
      simp only [↓reduceIte, e107_0, e107_1, e107_4, e107_7, e107_8, e107_9, e107_10, e107_13, e107_15, e107_16, e107_17, e107_18, e107_19, e107_22, e107_23, e107_26, e107_29, e107_30, e107_31, e107_32, e107_33, e107_34, e107_35, e107_38, e107_41, e107_44, e107_45, e107_48, e107_49, e107_52, e107_53, e107_56, e107_57, e107_60, e107_61, e107_62, e107_63, e107_66, e107_69, e107_72, e107_73, e107_74, e107_77, e107_78, e107_79, e107_82, e107_83, e107_86, e107_88, e107_91, e107_92, e107_95, e107_96, e107_97, e107_98, e107_101, e107_102, gf8_6 kd3, gf5_1 kd68, h68, Int32.le_refl, aft_v, aft_n, Option.bind_some, rf_some, ck_i, ck_r, ck_n, nb0, nb1, nbi, Nat.reduceAdd, if_true, if_false, not_false_eq_true, not_true_eq_false]
theorem ex_end (h150 : l ≤ 150) (tx : Nat → Int32) {α0 : Mem} (h0 : α0 69 = tx) : ∀ k i (α : Mem) (d : Int32), i ≤ l → errF α0 l (l - i) i 0 = -1 → Ok α n → Dj α n → Ok (exF tx l n k α i d).1 n ∧ Dj (exF tx l n k α i d).1 n ∧ Fs α (exF tx l n k α i d).1 := by
  subst h0
  intro k
  induction k with
  | zero => intro i α d _ _ H D; exact ⟨H, D, Fs_r α⟩
  | succ k ih =>
    intro i α d h2 hV H D
    rw [exF]
    by_cases hil : i < l
    · have ero := err_or (α := α0) hil
      have hok : okT (α0 69) l i := by
        by_cases w : okT (α0 69) l i
        · exact w
        · rw [ero.2 w] at hV
          have hle := ok_le (α0 69) l i hil
          exact absurd hV (Jm1 (by omega))
      have hx := ok_nx hok
      rw [ero.1 hok] at hV
      rw [if_pos hil]
      cases ho : obeyF α n (byT (α0 69) l i) (byT (α0 69) l (i + 1)) with
      | none => exact ⟨H, D, Fs_r α⟩
      | some α' =>
        obtain ⟨H', D', F'⟩ := obey_end H D (okT_v hok) ho
        dsimp only
        have en : nxT (α0 69) l i = i + (if byT (α0 69) l i = 101 then 2 else 3) := by
          by_cases w : byT (α0 69) l i = 101
          · rw [if_pos w]; exact hx.2.2.2.2.1 w
          · rw [if_neg w]
            by_cases w2 : byT (α0 69) l i = 119
            · exact hx.2.2.2.1 w2
            · exact hx.2.2.2.2.2 w2 w
        rw [en] at hV hx
        have r := ih _ α' (d + 1) hx.1 hV H' D'
        exact ⟨r.1, r.2.1, Fs_t F' r.2.2⟩
    · rw [if_neg hil]; exact ⟨H, D, Fs_r α⟩
end S64
section S64m
variable {z : Zr} {α β γ : Mem} {π : Nat → Nat} {η : Int64} {o : Nat → Int64} {od : Nat → UInt64} {n l k : Nat}
/-- letter and digit of the order f, s -/
def LDt (β : Mem) (f s : Int32) : Prop := (f = 119 → β 70 8 = 119 ∧ β 70 9 = s - 48) ∧ (f = 101 → β 70 8 = 101) ∧ (¬ f = 119 → ¬ f = 101 → β 70 8 = s ∧ β 70 9 = f - 48 ∧ ltr s)
theorem s202 (H : Ok α n) (R : Rm (β 71) α n) {f s : Int32} (L : LDt β f s) : Run 202 0 [some (.ref (70))] [] (HC z γ π β η o od) = some (.inl (some (.int (bi (¬ obeyF α n f s = none)))), (HC z γ π β η o od)) := by
  have h8 := H.n8
  unfold obeyF
  by_cases q1 : f = 101
  · have e := L.2.1 q1
    rw [if_pos q1, bi_t (fun w => by cases w)]
    simp only [↓reduceIte, e202_0, e202_1, e202_4, e202_6, e202_9, e202_10, e202_13, e202_15, e202_18, e202_19, e202_22, e202_24, e202_27, e202_28, e202_29, e202_32, e202_35, e202_38, e202_39, e202_40, e202_43, e202_44, e202_47, e202_49, e202_52, e202_53, e202_56, e202_57, e202_60, e202_63, e202_64, e202_67, e202_68, gf9_8 kd_70, e, l1_119, aft_v, aft_n, Option.bind_some, rf_some, ck_i, ck_r, ck_n, nb0, nb1, nbi, Nat.reduceAdd, if_true, if_false, not_false_eq_true, not_true_eq_false]
  rw [if_neg q1]
  by_cases q2 : f = 119
  · have e := (L.1 q2).1
    rw [if_pos q2, bi_t (fun w => by cases w)]
    simp only [↓reduceIte, e202_0, e202_1, e202_4, e202_6, e202_9, e202_10, e202_13, e202_15, e202_18, e202_19, e202_22, e202_24, e202_27, e202_28, e202_29, e202_32, e202_35, e202_38, e202_39, e202_40, e202_43, e202_44, e202_47, e202_49, e202_52, e202_53, e202_56, e202_57, e202_60, e202_63, e202_64, e202_67, e202_68, gf9_8 kd_70, e, aft_v, aft_n, Option.bind_some, rf_some, ck_i, ck_r, ck_n, nb0, nb1, nbi, Nat.reduceAdd, if_true, if_false, not_false_eq_true, not_true_eq_false]
  rw [if_neg q2]
  obtain ⟨e8, e9, hl⟩ := L.2.2 q2 q1
  have c1 : ((97 : Int32) = 119) = False := eq_false (by decide)
  have c2 : ((97 : Int32) = 101) = False := eq_false (by decide)
  have c3 : ((108 : Int32) = 119) = False := eq_false (by decide)
  have c4 : ((108 : Int32) = 101) = False := eq_false (by decide)
  have c5 : ((108 : Int32) = 97) = False := eq_false (by decide)
  have c6 : ((108 : Int32) = 114) = False := eq_false (by decide)
  have c7 : ((114 : Int32) = 119) = False := eq_false (by decide)
  have c8 : ((114 : Int32) = 101) = False := eq_false (by decide)
  have c9 : ((114 : Int32) = 97) = False := eq_false (by decide)
  by_cases q3 : isShipC α 4 (f - 48)
  · rw [if_pos q3]
    obtain ⟨i, hi, e⟩ := isShip_ex H.hn h8 q3
    rw [e] at e9
    rw [e, J_tn (by omega)]
    have s1 := s159 (z := z) (γ := γ) (π := π) (η := η) (o := o) (od := od) H R hi
    have t0 := s163 (z := z) (γ := γ) (π := π) (η := η) (o := o) (od := od) H R hi (Or.inl rfl)
    have t1 := s163 (z := z) (γ := γ) (π := π) (η := η) (o := o) (od := od) H R hi (Or.inr rfl)
    rcases hl with rfl | rfl | rfl
    · rw [if_pos rfl]
      by_cases q5 : canMoveC α n i
      · rw [if_pos q5] at s1 ⊢
        rw [bi_t (fun w => by cases w)]
        simp only [↓reduceIte, e202_0, e202_1, e202_4, e202_6, e202_9, e202_10, e202_13, e202_15, e202_18, e202_19, e202_22, e202_24, e202_27, e202_28, e202_29, e202_32, e202_35, e202_38, e202_39, e202_40, e202_43, e202_44, e202_47, e202_49, e202_52, e202_53, e202_56, e202_57, e202_60, e202_63, e202_64, e202_67, e202_68, gf9_8 kd_70, gf9_9 kd_70, e8, e9, c1, c2, isO70, s1, aft_v, aft_n, Option.bind_some, rf_some, ck_i, ck_r, ck_n, nb0, nb1, nbi, Nat.reduceAdd, if_true, if_false, not_false_eq_true, not_true_eq_false]
      · rw [if_neg q5] at s1 ⊢
        rw [bi_f (fun w => w rfl)]
        simp only [↓reduceIte, e202_0, e202_1, e202_4, e202_6, e202_9, e202_10, e202_13, e202_15, e202_18, e202_19, e202_22, e202_24, e202_27, e202_28, e202_29, e202_32, e202_35, e202_38, e202_39, e202_40, e202_43, e202_44, e202_47, e202_49, e202_52, e202_53, e202_56, e202_57, e202_60, e202_63, e202_64, e202_67, e202_68, gf9_8 kd_70, gf9_9 kd_70, e8, e9, c1, c2, isO70, s1, ln2_0, aft_v, aft_n, Option.bind_some, rf_some, ck_i, ck_r, ck_n, nb0, nb1, nbi, Nat.reduceAdd, if_true, if_false, not_false_eq_true, not_true_eq_false]
    · have eb : bi ((108 : Int32) = 114) = 0 := by decide
      rw [if_neg (by decide), eb]
      by_cases q5 : canSwingC α i 0
      · rw [if_pos q5] at t0 ⊢
        rw [bi_t (fun w => by cases w)]
        simp only [↓reduceIte, e202_0, e202_1, e202_4, e202_6, e202_9, e202_10, e202_13, e202_15, e202_18, e202_19, e202_22, e202_24, e202_27, e202_28, e202_29, e202_32, e202_35, e202_38, e202_39, e202_40, e202_43, e202_44, e202_47, e202_49, e202_52, e202_53, e202_56, e202_57, e202_60, e202_63, e202_64, e202_67, e202_68, gf9_8 kd_70, gf9_9 kd_70, e8, e9, c3, c4, c5, c6, isO70, t0, aft_v, aft_n, Option.bind_some, rf_some, ck_i, ck_r, ck_n, nb0, nb1, nbi, Nat.reduceAdd, if_true, if_false, not_false_eq_true, not_true_eq_false]
      · rw [if_neg q5] at t0 ⊢
        rw [bi_f (fun w => w rfl)]
        simp only [↓reduceIte, e202_0, e202_1, e202_4, e202_6, e202_9, e202_10, e202_13, e202_15, e202_18, e202_19, e202_22, e202_24, e202_27, e202_28, e202_29, e202_32, e202_35, e202_38, e202_39, e202_40, e202_43, e202_44, e202_47, e202_49, e202_52, e202_53, e202_56, e202_57, e202_60, e202_63, e202_64, e202_67, e202_68, gf9_8 kd_70, gf9_9 kd_70, e8, e9, c3, c4, c5, c6, isO70, t0, ln2_0, aft_v, aft_n, Option.bind_some, rf_some, ck_i, ck_r, ck_n, nb0, nb1, nbi, Nat.reduceAdd, if_true, if_false, not_false_eq_true, not_true_eq_false]
    · have eb : bi ((114 : Int32) = 114) = 1 := by decide
      rw [if_neg (by decide), eb]
      by_cases q5 : canSwingC α i 1
      · rw [if_pos q5] at t1 ⊢
        rw [bi_t (fun w => by cases w)]
        simp only [↓reduceIte, e202_0, e202_1, e202_4, e202_6, e202_9, e202_10, e202_13, e202_15, e202_18, e202_19, e202_22, e202_24, e202_27, e202_28, e202_29, e202_32, e202_35, e202_38, e202_39, e202_40, e202_43, e202_44, e202_47, e202_49, e202_52, e202_53, e202_56, e202_57, e202_60, e202_63, e202_64, e202_67, e202_68, gf9_8 kd_70, gf9_9 kd_70, e8, e9, c7, c8, c9, isO70, t1, aft_v, aft_n, Option.bind_some, rf_some, ck_i, ck_r, ck_n, nb0, nb1, nbi, Nat.reduceAdd, if_true, if_false, not_false_eq_true, not_true_eq_false]
      · rw [if_neg q5] at t1 ⊢
        rw [bi_f (fun w => w rfl)]
        simp only [↓reduceIte, e202_0, e202_1, e202_4, e202_6, e202_9, e202_10, e202_13, e202_15, e202_18, e202_19, e202_22, e202_24, e202_27, e202_28, e202_29, e202_32, e202_35, e202_38, e202_39, e202_40, e202_43, e202_44, e202_47, e202_49, e202_52, e202_53, e202_56, e202_57, e202_60, e202_63, e202_64, e202_67, e202_68, gf9_8 kd_70, gf9_9 kd_70, e8, e9, c7, c8, c9, isO70, t1, ln2_0, aft_v, aft_n, Option.bind_some, rf_some, ck_i, ck_r, ck_n, nb0, nb1, nbi, Nat.reduceAdd, if_true, if_false, not_false_eq_true, not_true_eq_false]
  · rw [if_neg q3, bi_f (fun w => w rfl)]
    have s1 := s159n (z := z) (γ := γ) (π := π) (η := η) (o := o) (od := od) H R q3
    have t0 := s163n (z := z) (γ := γ) (π := π) (η := η) (o := o) (od := od) (r := 0) H R q3
    have t1 := s163n (z := z) (γ := γ) (π := π) (η := η) (o := o) (od := od) (r := 1) H R q3
    rcases hl with rfl | rfl | rfl
    · simp only [↓reduceIte, e202_0, e202_1, e202_4, e202_6, e202_9, e202_10, e202_13, e202_15, e202_18, e202_19, e202_22, e202_24, e202_27, e202_28, e202_29, e202_32, e202_35, e202_38, e202_39, e202_40, e202_43, e202_44, e202_47, e202_49, e202_52, e202_53, e202_56, e202_57, e202_60, e202_63, e202_64, e202_67, e202_68, gf9_8 kd_70, gf9_9 kd_70, e8, e9, c1, c2, isO70, s1, i1_0, aft_v, aft_n, Option.bind_some, rf_some, ck_i, ck_r, ck_n, nb0, nb1, nbi, Nat.reduceAdd, if_true, if_false, not_false_eq_true, not_true_eq_false]
    · simp only [↓reduceIte, e202_0, e202_1, e202_4, e202_6, e202_9, e202_10, e202_13, e202_15, e202_18, e202_19, e202_22, e202_24, e202_27, e202_28, e202_29, e202_32, e202_35, e202_38, e202_39, e202_40, e202_43, e202_44, e202_47, e202_49, e202_52, e202_53, e202_56, e202_57, e202_60, e202_63, e202_64, e202_67, e202_68, gf9_8 kd_70, gf9_9 kd_70, e8, e9, c3, c4, c5, c6, isO70, t0, i1_0, aft_v, aft_n, Option.bind_some, rf_some, ck_i, ck_r, ck_n, nb0, nb1, nbi, Nat.reduceAdd, if_true, if_false, not_false_eq_true, not_true_eq_false]
    · simp only [↓reduceIte, e202_0, e202_1, e202_4, e202_6, e202_9, e202_10, e202_13, e202_15, e202_18, e202_19, e202_22, e202_24, e202_27, e202_28, e202_29, e202_32, e202_35, e202_38, e202_39, e202_40, e202_43, e202_44, e202_47, e202_49, e202_52, e202_53, e202_56, e202_57, e202_60, e202_63, e202_64, e202_67, e202_68, gf9_8 kd_70, gf9_9 kd_70, e8, e9, c7, c8, c9, isO70, t1, i1_0, aft_v, aft_n, Option.bind_some, rf_some, ck_i, ck_r, ck_n, nb0, nb1, nbi, Nat.reduceAdd, if_true, if_false, not_false_eq_true, not_true_eq_false]
theorem s203 (H : Ok α n) (R : Rm (β 71) α n) {f s : Int32} (L : LDt β f s) {α' : Mem} (h : obeyF α n f s = some α') : ∃ β' v, Run 203 0 [some (.ref (70))] [] (HC z γ π β η o od) = some (.inl (some (.int (v))), (HC z γ π β' η o od)) ∧ Rm (β' 71) α' n ∧ Md β β' := by
  have h8 := H.n8
  unfold obeyF at h
  by_cases q1 : f = 101
  · have e := L.2.1 q1
    rw [if_pos q1] at h
    cases h
    obtain ⟨β', a, b, c⟩ := s166 (z := z) (γ := γ) (π := π) (η := η) (o := o) (od := od) H R
    refine ⟨β', (dr1 n n 0 α 0).2, ?_, b, c⟩
    simp only [↓reduceIte, e203_0, e203_1, e203_4_97, e203_4_101, e203_4_119, e203_40, e203_41, e203_44, e203_45, e203_46, e203_49, e203_50, e203_51, e203_54, e203_55, e203_56, e203_59, e203_60, e203_61, e203_62, e203_65, e203_68, e203_69, e203_70, e203_71, e203_74, e203_75, e203_78, e203_80, e203_83, e203_84, e203_87, e203_88, e203_91, gf9_8 kd_70, e, isO70, a, aft_v, aft_n, Option.bind_some, rf_some, ck_i, ck_r, ck_n, nb0, nb1, nbi, Nat.reduceAdd, if_true, if_false, not_false_eq_true, not_true_eq_false]
  rw [if_neg q1] at h
  by_cases q2 : f = 119
  · have e := L.1 q2
    rw [if_pos q2] at h
    cases h
    have p2 : ∀ v, paI (HC z γ π β η o od) 71 2 v = some (HC z γ π (up2 β 71 2 v) η o od) := fun v => paI41 kd_71 (in71h (k := 2) (by decide))
    have e9 : up2 β 71 2 (s - 48) 70 9 = s - 48 := by rw [up2_ne _ (by decide)]; exact e.2
    refine ⟨up2 β 71 2 (s - 48), s - 48, ?_, Rm_71 R (by decide) _, Md_up (Md_r β) _ _⟩
    simp only [↓reduceIte, e203_0, e203_1, e203_4_97, e203_4_101, e203_4_119, e203_40, e203_41, e203_44, e203_45, e203_46, e203_49, e203_50, e203_51, e203_54, e203_55, e203_56, e203_59, e203_60, e203_61, e203_62, e203_65, e203_68, e203_69, e203_70, e203_71, e203_74, e203_75, e203_78, e203_80, e203_83, e203_84, e203_87, e203_88, e203_91, gf9_0 kd_70, gf9_8 kd_70, gf9_9 kd_70, e.1, e.2, p2, e9, aft_v, aft_n, Option.bind_some, rf_some, ck_i, ck_r, ck_n, nb0, nb1, nbi, Nat.reduceAdd, if_true, if_false, not_false_eq_true, not_true_eq_false]
  rw [if_neg q2] at h
  obtain ⟨e8, e9, hl⟩ := L.2.2 q2 q1
  by_cases q3 : isShipC α 4 (f - 48)
  · rw [if_pos q3] at h
    obtain ⟨i, hi, e⟩ := isShip_ex H.hn h8 q3
    rw [e] at e9
    rw [e, J_tn (by omega)] at h
    obtain ⟨b1, m1, m2, m3⟩ := s160 (z := z) (γ := γ) (π := π) (η := η) (o := o) (od := od) H R hi
    obtain ⟨b2, t1, t2, t3⟩ := s164 (z := z) (γ := γ) (π := π) (η := η) (o := o) (od := od) H R hi (Or.inl rfl)
    obtain ⟨b3, r1, r2, r3⟩ := s164 (z := z) (γ := γ) (π := π) (η := η) (o := o) (od := od) H R hi (Or.inr rfl)
    rcases hl with rfl | rfl | rfl
    · rw [if_pos rfl] at h
      by_cases q5 : canMoveC α n i
      · rw [if_pos q5] at h
        cases h
        refine ⟨b1, nbC α (α (7 + i) 1) (hdA α (7 + i)), ?_, m2, m3⟩
        · simp only [↓reduceIte, e203_0, e203_1, e203_4_97, e203_4_101, e203_4_119, e203_40, e203_41, e203_44, e203_45, e203_46, e203_49, e203_50, e203_51, e203_54, e203_55, e203_56, e203_59, e203_60, e203_61, e203_62, e203_65, e203_68, e203_69, e203_70, e203_71, e203_74, e203_75, e203_78, e203_80, e203_83, e203_84, e203_87, e203_88, e203_91, gf9_8 kd_70, gf9_9 kd_70, e8, e9, isO70, m1, aft_v, aft_n, Option.bind_some, rf_some, ck_i, ck_r, ck_n, nb0, nb1, nbi, Nat.reduceAdd, if_true, if_false, not_false_eq_true, not_true_eq_false]
      · rw [if_neg q5] at h; cases h
    · have eb : bi ((108 : Int32) = 114) = 0 := by decide
      have c6 : ((108 : Int32) = 114) = False := eq_false (by decide)
      rw [if_neg (by decide), eb] at h
      by_cases q5 : canSwingC α i 0
      · rw [if_pos q5] at h
        cases h
        refine ⟨b2, J (hdN (hdA α (7 + i)) 0), ?_, t2, t3⟩
        · simp only [↓reduceIte, e203_0, e203_1, e203_40, e203_41, e203_44, e203_45, e203_46, e203_49, e203_50, e203_51, e203_54, e203_55, e203_56, e203_59, e203_60, e203_61, e203_62, e203_65, e203_68, e203_69, e203_70, e203_71, e203_74, e203_75, e203_78, e203_80, e203_83, e203_84, e203_87, e203_88, e203_91, e203_4_d (x := 108) (by decide), gf9_8 kd_70, gf9_9 kd_70, e8, e9, c6, isO70, t1, aft_v, aft_n, Option.bind_some, rf_some, ck_i, ck_r, ck_n, nb0, nb1, nbi, Nat.reduceAdd, if_true, if_false, not_false_eq_true, not_true_eq_false]
      · rw [if_neg q5] at h; cases h
    · have eb : bi ((114 : Int32) = 114) = 1 := by decide
      rw [if_neg (by decide), eb] at h
      by_cases q5 : canSwingC α i 1
      · rw [if_pos q5] at h
        cases h
        refine ⟨b3, J (hdN (hdA α (7 + i)) 1), ?_, r2, r3⟩
        · simp only [↓reduceIte, e203_0, e203_1, e203_40, e203_41, e203_44, e203_45, e203_46, e203_49, e203_50, e203_51, e203_54, e203_55, e203_56, e203_59, e203_60, e203_61, e203_62, e203_65, e203_68, e203_69, e203_70, e203_71, e203_74, e203_75, e203_78, e203_80, e203_83, e203_84, e203_87, e203_88, e203_91, e203_4_d (x := 114) (by decide), gf9_8 kd_70, gf9_9 kd_70, e8, e9, isO70, r1, aft_v, aft_n, Option.bind_some, rf_some, ck_i, ck_r, ck_n, nb0, nb1, nbi, Nat.reduceAdd, if_true, if_false, not_false_eq_true, not_true_eq_false]
      · rw [if_neg q5] at h; cases h
  · rw [if_neg q3] at h; cases h
theorem Mq_mt {β β' : Mem} (h : Mt β β') : Mq β β' := ⟨fun _ => by rw [h.1 72 (by decide)], fun _ => by rw [h.1 73 (by decide)], h.2.2, h.2.1⟩
theorem s204_l {α0 : Mem} (h150 : l ≤ 150) : ∀ k i (α : Mem) (d : Int32) (β : Mem) (u : Option Value), l ≤ i + k → i ≤ l → errF α0 l (l - i) i 0 = -1 → Ok α n → Dj α n → Rm (β 71) α n → Tp β l (α0 69) i → ∃ β', Run 204 33 [some (.ref (70)), some (.int (d)), some (.int (1)), u] [] (HC z γ π β η o od) = some (.inl (some (.int ((exF (α0 69) l n k α i d).2))), (HC z γ π β' η o od)) ∧ Rm (β' 71) (exF (α0 69) l n k α i d).1 n ∧ Mq β β' := by
  intro k
  induction k with
  | zero =>
    intro i α d β u h1 h2 hV H D R T
    have : i = l := by omega
    subst this
    refine ⟨β, ?_, R, Mq_r β⟩
    simp only [↓reduceIte, e204_0, e204_1, e204_2, e204_5, e204_6, e204_9, e204_12, e204_14, e204_15, e204_18, e204_19, e204_20, e204_21, e204_24, e204_25, e204_26, e204_29, e204_30, e204_31, e204_32, e204_33, e204_34, e204_37, e204_38, e204_41, e204_42, e204_45, e204_48, e204_49, e204_52, e204_55, e204_56, e204_59, e204_60, e204_61, e204_64, e204_65, e204_68, e204_69, e204_72, e204_75, e204_76, gf9_7 kd_70, gf9_4 kd_70, T.1, T.2.2.2.1, Int32.le_refl, i1_0, exF, aft_v, aft_n, Option.bind_some, rf_some, ck_i, ck_r, ck_n, nb0, nb1, nbi, Nat.reduceAdd, if_true, if_false, not_false_eq_true, not_true_eq_false]
  | succ k ih =>
    intro i α d β u h1 h2 hV H D R T
    by_cases hil : i < l
    · have ero := err_or (α := α0) hil
      have hok : okT (α0 69) l i := by
        by_cases w : okT (α0 69) l i
        · exact w
        · rw [ero.2 w] at hV
          have hle := ok_le (α0 69) l i hil
          exact absurd hV (Jm1 (by omega))
      have hx := ok_nx hok
      rw [ero.1 hok] at hV
      obtain ⟨β1, a, b, c, dd⟩ := s200 (z := z) (γ := γ) (π := π) (η := η) (o := o) (od := od) T (by omega)
      rw [bi_t hok] at a
      have dd' := dd hok
      have L : LDt β1 (byT (α0 69) l i) (byT (α0 69) l (i + 1)) := ⟨dd'.1, dd'.2.1, fun x y => ⟨(dd'.2.2 x y).1, (dd'.2.2 x y).2, okT_l hok x y⟩⟩
      have R1 : Rm (β1 71) α n := by rw [c.1 71 (by decide)]; exact R
      have e202 := s202 (z := z) (γ := γ) (π := π) (η := η) (o := o) (od := od) H R1 L
      rw [exF, if_pos hil]
      cases ho : obeyF α n (byT (α0 69) l i) (byT (α0 69) l (i + 1)) with
      | none =>
        rw [bi_f (fun w => w ho)] at e202
        refine ⟨β1, ?_, R1, Mq_mt c⟩
        rw [e204_33]
        simp only [↓reduceIte, e204_0, e204_1, e204_2, e204_5, e204_6, e204_9, e204_12, e204_14, e204_15, e204_18, e204_19, e204_20, e204_21, e204_24, e204_25, e204_26, e204_29, e204_30, e204_31, e204_32, e204_34, e204_37, e204_38, e204_41, e204_42, e204_45, e204_48, e204_49, e204_52, e204_55, e204_56, e204_59, e204_60, e204_61, e204_64, e204_65, e204_68, e204_69, e204_72, e204_75, e204_76, e204_33, gf9_7 kd_70, gf9_4 kd_70, T.1, T.2.2.2.1, J_le (show l < 2147483648 by omega) (show i < 2147483648 by omega), show ¬ l ≤ i by omega, isO70, a, e202, i1_0, aft_v, aft_n, Option.bind_some, rf_some, ck_i, ck_r, ck_n, nb0, nb1, nbi, Nat.reduceAdd, if_true, if_false, not_false_eq_true, not_true_eq_false]
      | some α' =>
        rw [bi_t (show ¬ obeyF α n (byT (α0 69) l i) (byT (α0 69) l (i + 1)) = none from fun w => by rw [ho] at w; cases w)] at e202
        obtain ⟨H', D', F'⟩ := obey_end H D (okT_v hok) ho
        obtain ⟨β2, v, a2, b2, c2⟩ := s203 (z := z) (γ := γ) (π := π) (η := η) (o := o) (od := od) H R1 L ho
        have en : nxT (α0 69) l i = i + (if byT (α0 69) l i = 101 then 2 else 3) := by
          by_cases w : byT (α0 69) l i = 101
          · rw [if_pos w]; exact hx.2.2.2.2.1 w
          · rw [if_neg w]
            by_cases w2 : byT (α0 69) l i = 119
            · exact hx.2.2.2.1 w2
            · exact hx.2.2.2.2.2 w2 w
        have T2 : Tp β2 l (α0 69) (nxT (α0 69) l i) := ⟨by rw [c2 70 (by decide)]; exact b.1, b.2.1, fun j hj => by rw [c2 73 (by decide)]; exact b.2.2.1 j hj, by rw [c2 70 (by decide)]; exact b.2.2.2.1, b.2.2.2.2⟩
        obtain ⟨β', g1, g2, g3⟩ := ih (nxT (α0 69) l i) α' (d + 1) β2 (some (.int v)) (by omega) hx.1 hV H' D' b2 T2
        dsimp only
        rw [← en]
        refine ⟨β', ?_, g2, Mq_t (Mq_t (Mq_mt c) (Mq_md c2)) g3⟩
        rw [← g1, e204_33]
        simp only [↓reduceIte, e204_0, e204_1, e204_2, e204_5, e204_6, e204_9, e204_12, e204_14, e204_15, e204_18, e204_19, e204_20, e204_21, e204_24, e204_25, e204_26, e204_29, e204_30, e204_31, e204_32, e204_34, e204_37, e204_38, e204_41, e204_42, e204_45, e204_48, e204_49, e204_52, e204_55, e204_56, e204_59, e204_60, e204_61, e204_64, e204_65, e204_68, e204_69, e204_72, e204_75, e204_76, gf9_7 kd_70, gf9_4 kd_70, T.1, T.2.2.2.1, J_le (show l < 2147483648 by omega) (show i < 2147483648 by omega), show ¬ l ≤ i by omega, isO70, a, e202, a2, i1_0, aft_v, aft_n, Option.bind_some, rf_some, ck_i, ck_r, ck_n, nb0, nb1, nbi, Nat.reduceAdd, if_true, if_false, not_false_eq_true, not_true_eq_false]
    · have : i = l := by omega
      subst this
      rw [exF, if_neg hil]
      refine ⟨β, ?_, R, Mq_r β⟩
      simp only [↓reduceIte, e204_0, e204_1, e204_2, e204_5, e204_6, e204_9, e204_12, e204_14, e204_15, e204_18, e204_19, e204_20, e204_21, e204_24, e204_25, e204_26, e204_29, e204_30, e204_31, e204_32, e204_33, e204_34, e204_37, e204_38, e204_41, e204_42, e204_45, e204_48, e204_49, e204_52, e204_55, e204_56, e204_59, e204_60, e204_61, e204_64, e204_65, e204_68, e204_69, e204_72, e204_75, e204_76, gf9_7 kd_70, gf9_4 kd_70, T.1, T.2.2.2.1, Int32.le_refl, i1_0, aft_v, aft_n, Option.bind_some, rf_some, ck_i, ck_r, ck_n, nb0, nb1, nbi, Nat.reduceAdd, if_true, if_false, not_false_eq_true, not_true_eq_false]
end S64m
section S64o
variable {z : Zr} {α β γ : Mem} {π : Nat → Nat} {η : Int64} {o : Nat → Int64} {od : Nat → UInt64} {n l k : Nat}
theorem op_carry (I : Inv α π β n l k) : Res2 (fun hh => Run 107 0 [some (.ref (3)), none, none, none] [] hh) (fun hh => Run 204 0 [some (.ref (70)), none, none, none] [] hh) z α π β η o od := by
  obtain ⟨H, D, R, ⟨t1, t2, t3, t4⟩, h1, h2, h3, hse, h5, h6⟩ := id I
  have h8 := H.n8
  have e37 := s37 (z := z) (β := β) (π := π) (η := η) (o := o) (od := od) t1 t2
  by_cases q : errF α l l 0 0 = -1
  · have sq : Sq α (saveC α π n k) := fun j q w => save_sq hse h2 h8 q w
    obtain ⟨β1, p', a, b, c, -⟩ := s201 (z := z) (γ := (exF (α 69) l n l (saveC α π n k) 0 0).1) (π := saveP π k) (η := η) (o := o) (od := od) (β := up2 β 70 5 0) (α := α) (by rw [up2_rd _ _ _ _ _ (by decide)]; exact t3) t2 (fun i hi => by rw [up2_ne _ (by decide)]; exact t4 i hi)
    rw [bi_t q] at a
    have I1 : Inv α π β1 n l k := Inv_up I (Fs_r α) H D (by rw [c.1 71 (by decide)]; exact Rm_cd R 5 0) (Mq_t (Mq_70 β (by decide) (by decide) 0) (Mq_mt c))
    have Q := Inv_save I1
    obtain ⟨Q1, Q2, Q3, ⟨q1, q2, q3, q4⟩, -⟩ := id Q
    have g69 : saveC α π n k 69 = α 69 := save_o h8 (by decide) (Or.inr (by have := save_p hse k (saveK k) (save_k h2).1; have := sea_lt this.1 this.2; omega))
    have T : Tp (up2 (keepB β1 k) 70 7 (J 0)) l (α 69) 0 := ⟨by rw [up2_rd _ _ _ _ _ (by decide)]; exact q3, t2, fun i hi => by rw [up2_ne _ (by decide), q4 i hi, g69], up2_rr .., by omega⟩
    have hV : errF α l (l - 0) 0 0 = -1 := q
    have hc := s107_l (z := z) (β := β) (π := saveP π k) (η := η) (o := o) (od := od) (α0 := α) t2 (-1) l 0 (saveC α π n k) 0 (by omega) (by omega) hV Q1 Q2 g69 q1
    obtain ⟨β', m1, m2, m3⟩ := s204_l (z := z) (γ := (exF (α 69) l n l (saveC α π n k) 0 0).1) (π := saveP π k) (η := η) (o := o) (od := od) (α0 := α) t2 l 0 (saveC α π n k) 0 (up2 (keepB β1 k) 70 7 (J 0)) none (by omega) (by omega) hV Q1 Q2 (by rw [up2_ne _ (by decide)]; exact Q3) T
    have ee := ex_end (n := n) t2 (α 69) (α0 := α) rfl l 0 (saveC α π n k) 0 (by omega) hV Q1 Q2
    have hk2 : β1 70 2 = J k := I1.k2
    have e121 := s121 (z := z) (γ := (exF (α 69) l n l (saveC α π n k) 0 0).1) (π := saveP π k) (η := η) (o := o) (od := od) hk2 h2
    have hs := s30 (z := z) (β := β) (η := η) (o := o) (od := od) H hse h1 h2
    refine ⟨(exF (α 69) l n l (saveC α π n k) 0 0).2, (exF (α 69) l n l (saveC α π n k) 0 0).1, saveP π k, β', n, l, saveK k + 1, ?_, ?_, Inv_up Q ee.2.2 ee.1 ee.2.1 m2 (Mq_t (Mq_70 _ (by decide) (by decide) _) m3)⟩
    · rw [show J 0 = (0 : Int32) from rfl] at hc
      rw [q] at e37
      rw [← hc]
      simp only [↓reduceIte, e107_0, e107_1, e107_4, e107_7, e107_8, e107_9, e107_10, e107_13, e107_15, e107_16, e107_17, e107_18, e107_19, e107_22, e107_23, e107_26, e107_29, e107_30, e107_31, e107_32, e107_34, e107_35, e107_38, e107_41, e107_44, e107_45, e107_48, e107_49, e107_52, e107_53, e107_56, e107_57, e107_60, e107_61, e107_62, e107_63, e107_66, e107_69, e107_72, e107_73, e107_74, e107_77, e107_78, e107_79, e107_82, e107_83, e107_86, e107_88, e107_91, e107_92, e107_95, e107_96, e107_97, e107_98, e107_101, e107_102, gf8_6 kd3, gf8_1 kd3, gf8_0 kd3, isO68, isO15, e37, hs, aft_v, aft_n, Option.bind_some, rf_some, ck_i, ck_r, ck_n, nb0, nb1, nbi, Nat.reduceAdd, if_true, if_false, not_false_eq_true, not_true_eq_false]
    · rw [show J 0 = (0 : Int32) from rfl] at m1
      rw [← m1]
      simp only [↓reduceIte, e204_0, e204_1, e204_2, e204_5, e204_6, e204_9, e204_12, e204_14, e204_15, e204_18, e204_19, e204_20, e204_21, e204_24, e204_25, e204_26, e204_29, e204_30, e204_31, e204_32, e204_34, e204_37, e204_38, e204_41, e204_42, e204_45, e204_48, e204_49, e204_52, e204_55, e204_56, e204_59, e204_60, e204_61, e204_64, e204_65, e204_68, e204_69, e204_72, e204_75, e204_76, isO70, pf9_5 kd_70, a, i1_0, e121, pf9_7 kd_70, aft_v, aft_n, Option.bind_some, rf_some, ck_i, ck_r, ck_n, nb0, nb1, nbi, Nat.reduceAdd, if_true, if_false, not_false_eq_true, not_true_eq_false]
  · obtain ⟨β1, p', a, b, c, d⟩ := s201 (z := z) (γ := α) (π := π) (η := η) (o := o) (od := od) (β := up2 β 70 5 0) (α := α) (by rw [up2_rd _ _ _ _ _ (by decide)]; exact t3) t2 (fun i hi => by rw [up2_ne _ (by decide)]; exact t4 i hi)
    rw [bi_f q] at a
    have I1 : Inv α π β1 n l k := Inv_up I (Fs_r α) H D (by rw [c.1 71 (by decide)]; exact Rm_cd R 5 0) (Mq_t (Mq_70 β (by decide) (by decide) 0) (Mq_mt c))
    refine ⟨-10 - errF α l l 0 0, α, π, β1, n, l, k, ?_, ?_, I1⟩
    · simp only [↓reduceIte, e107_0, e107_1, e107_4, e107_7, e107_8, e107_9, e107_10, e107_13, e107_15, e107_16, e107_17, e107_18, e107_19, e107_22, e107_23, e107_26, e107_29, e107_30, e107_31, e107_32, e107_34, e107_35, e107_38, e107_41, e107_44, e107_45, e107_48, e107_49, e107_52, e107_53, e107_56, e107_57, e107_60, e107_61, e107_62, e107_63, e107_66, e107_69, e107_72, e107_73, e107_74, e107_77, e107_78, e107_79, e107_82, e107_83, e107_86, e107_88, e107_91, e107_92, e107_95, e107_96, e107_97, e107_98, e107_101, e107_102, gf8_6 kd3, isO68, e37, q, aft_v, aft_n, Option.bind_some, rf_some, ck_i, ck_r, ck_n, nb0, nb1, nbi, Nat.reduceAdd, if_true, if_false, not_false_eq_true, not_true_eq_false]
    · rw [d q]
      simp only [↓reduceIte, e204_0, e204_1, e204_2, e204_5, e204_6, e204_9, e204_12, e204_14, e204_15, e204_18, e204_19, e204_20, e204_21, e204_24, e204_25, e204_26, e204_29, e204_30, e204_31, e204_32, e204_34, e204_37, e204_38, e204_41, e204_42, e204_45, e204_48, e204_49, e204_52, e204_55, e204_56, e204_59, e204_60, e204_61, e204_64, e204_65, e204_68, e204_69, e204_72, e204_75, e204_76, isO70, pf9_5 kd_70, a, gf9_7 kd_70, b.2.2.2.1, aft_v, aft_n, Option.bind_some, rf_some, ck_i, ck_r, ck_n, nb0, nb1, nbi, Nat.reduceAdd, if_true, if_false, not_false_eq_true, not_true_eq_false]
end S64o
