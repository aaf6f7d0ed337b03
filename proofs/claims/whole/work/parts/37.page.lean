/-! restoring; the model's page and its small methods -/
theorem kd_70 : kd 70 = 9 := by decide
theorem kd_71 : kd 71 = 41 := by decide
theorem kd_72 : kd 72 = 41 := by decide
theorem kd_73 : kd 73 = 41 := by decide
theorem kd_74 : kd 74 = 41 := by decide
theorem al71 : aln 71 = 270 := by decide
theorem al72 : aln 72 = 1080 := by decide
theorem al73 : aln 73 = 150 := by decide
theorem al74 : aln 74 = 1728 := by decide
/-- the class' slot of an offset of the model -/
def slM (k : Nat) : Nat := if k = 8 then 9 else if k = 9 then 10 else if k = 10 then 11 else if k = 11 then 12 else if k = 12 then 8 else if k = 13 then 14 else if k = 14 then 13 else k
def Rm (q : Nat → Int32) (α : Mem) (n : Nat) : Prop := (∀ k, k < 6 → q k = α 4 k) ∧ (∀ c, c < 144 → q (126 + c) = α 5 c) ∧ ∀ i, i < n → ∀ k, k < 15 → q (6 + 15 * i + k) = α (7 + i) (slM k)
theorem J_idx (i k : Nat) : 6 + 15 * J i + J k = J (6 + 15 * i + k) := by
  show Int32.ofNat 6 + Int32.ofNat 15 * Int32.ofNat i + Int32.ofNat k = _
  rw [← Int32.ofNat_mul, ← Int32.ofNat_add, ← Int32.ofNat_add]
section S37
variable {z : Zr} {α β γ : Mem} {π : Nat → Nat} {η : Int64} {o : Nat → Int64} {od : Nat → UInt64} {n k : Nat}
theorem s32 (hp : seas π) (hk : α 15 1 = J (k + 1)) (h4 : k < 4) (hn : α (π k) 5 = J n) (h8 : n ≤ 8) (hb13 : ∀ i, i < n → α (π k + 3 + i) 13 = 0 ∨ α (π k + 3 + i) 13 = 1) (hb14 : ∀ i, i < n → α (π k + 3 + i) 14 = 0 ∨ α (π k + 3 + i) 14 = 1) : Run 32 0 [some (.ref (15)), some (.ref (4))] [] (HC z α π β η o od) = some (.inl none, (HC z (seaW (up2 α 15 1 (J k)) 4 (π k) n) π β η o od)) := by
  have s4 : isSea 4 := Or.inl rfl
  have hs := hp k h4
  have hlt : π k < 15 ∨ 15 < π k := by have := hs.1; unfold isSea at this; omega
  have hne : π k ≠ 15 := by omega
  have hs3 : ∀ i, i < n → π k + 3 + i ≠ 15 := fun i hi => by have := hs.1; have := hs.2; unfold isSea at *; omega
  have e1 : J (k + 1) - 1 = J k := by rw [← J_succ, Int32.add_sub_cancel]
  have e : Run 42 0 [some (.ref (4)), some (.ref (π k)), none] [] (HC z (up2 α 15 1 (J k)) π β η o od) = _ := s42 (n := n) s4 hs.1 (fun q => hs.2 q.symm) (by rw [up2_ne _ hne]; exact hn) h8 (fun i hi => by rw [up2_ne _ (hs3 i hi)]; exact hb13 i hi) (fun i hi => by rw [up2_ne _ (hs3 i hi)]; exact hb14 i hi)
  simp only [↓reduceIte, e32_0, e32_1, e32_4, e32_7, e32_8, e32_11, e32_12, e32_15, e32_16, e32_17, e32_20, e32_21, e32_22, e32_25, e32_26, e32_27, e32_30, e32_31, e32_34, e32_35, e32_38, gf4_0 kd15, gf4_1 kd15, hk, J0, (show (4 : Int32) = J 4 from rfl), J_le (show k + 1 < 2147483648 by omega) (show 0 < 2147483648 by omega), J_lt (show 4 < 2147483648 by omega) (show k + 1 < 2147483648 by omega), show ¬ k + 1 ≤ 0 by omega, show ¬ 4 < k + 1 by omega, e1, pf4_1 kd15, up2_rr, gaR22 kd16 (inB_J h4 (by omega)), J_tn (show k < 2147483648 by omega), isO4, e, aft_v, aft_n, Option.bind_some, rf_some, ck_i, ck_r, ck_n, nb0, nb1, nbi, Nat.reduceAdd, if_true, if_false, not_false_eq_true, not_true_eq_false]
theorem isO70 : isO (HC z γ π β η o od) 70 9 = true := isO_HC kd_70 (by decide)
theorem in71 {i k : Nat} (hi : i < 8) (hk : k < 15) : inB (J (6 + 15 * i + k)) (aln 71) = true := by rw [al71]; exact inB_J (by omega) (by omega)
theorem s118 (x lo hi : Int32) : Run 118 0 [some (.int (x)), some (.int (lo)), some (.int (hi))] [] (HC z γ π β η o od) = some (.inl (some (.int (bi (¬ x < lo ∧ ¬ hi < x)))), (HC z γ π β η o od)) := by
  unfold bi
  simp only [e118_0, e118_1, e118_2, e118_5, e118_6, e118_7, e118_10, e118_11, e118_14, e118_15, aft_v, aft_n, Option.bind_some, rf_some, ck_i, ck_r, ck_n, nb0, nb1, nbi, Nat.reduceAdd, if_true, if_false, not_false_eq_true, not_true_eq_false]
  by_cases q1 : x < lo <;> by_cases q2 : hi < x <;> simp only [q1, q2, and_true, and_false, true_and, false_and, aft_v, aft_n, Option.bind_some, rf_some, ck_i, ck_r, ck_n, nb0, nb1, nbi, Nat.reduceAdd, if_true, if_false, not_false_eq_true, not_true_eq_false]
theorem s119 (x : Int32) : Run 119 0 [some (.int (x))] [] (HC z γ π β η o od) = some (.inl (some (.int (absC x))), (HC z γ π β η o od)) := by
  unfold absC
  simp only [e119_0, e119_1, e119_4, e119_5, e119_6, e119_9, e119_10, aft_v, aft_n, Option.bind_some, rf_some, ck_i, ck_r, ck_n, nb0, nb1, nbi, Nat.reduceAdd, if_true, if_false, not_false_eq_true, not_true_eq_false]
  by_cases q : 0 ≤ x <;> simp only [q, aft_v, aft_n, Option.bind_some, rf_some, ck_i, ck_r, ck_n, nb0, nb1, nbi, Nat.reduceAdd, if_true, if_false, not_false_eq_true, not_true_eq_false]
theorem s120 (x y : Int32) : Run 120 0 [some (.int (x)), some (.int (y))] [] (HC z γ π β η o od) = some (.inl (some (.int (mnC x y))), (HC z γ π β η o od)) := by
  unfold mnC
  simp only [e120_0, e120_1, e120_2, e120_5, e120_6, e120_9, e120_10, le_not, aft_v, aft_n, Option.bind_some, rf_some, ck_i, ck_r, ck_n, nb0, nb1, nbi, Nat.reduceAdd, if_true, if_false, not_false_eq_true, not_true_eq_false]
  by_cases q : x < y
  · have : ¬ y < x := by rw [i32_lt] at q ⊢; omega
    simp only [q, this, aft_v, aft_n, Option.bind_some, rf_some, ck_i, ck_r, ck_n, nb0, nb1, nbi, Nat.reduceAdd, if_true, if_false, not_false_eq_true, not_true_eq_false]
  · by_cases w : y < x
    · simp only [q, w, aft_v, aft_n, Option.bind_some, rf_some, ck_i, ck_r, ck_n, nb0, nb1, nbi, Nat.reduceAdd, if_true, if_false, not_false_eq_true, not_true_eq_false]
    · have : x = y := by rw [i32_eq]; rw [i32_lt] at q w; omega
      subst this
      simp only [q, aft_v, aft_n, Option.bind_some, rf_some, ck_i, ck_r, ck_n, nb0, nb1, nbi, Nat.reduceAdd, if_true, if_false, not_false_eq_true, not_true_eq_false]
theorem s125 (R : Rm (β 71) α n) (h8 : n ≤ 8) {i k : Nat} (hi : i < n) (hk : k < 15) : Run 125 0 [some (.ref (70)), some (.int (J i)), some (.int (J k))] [] (HC z γ π β η o od) = some (.inl (some (.int (α (7 + i) (slM k)))), (HC z γ π β η o od)) := by
  simp only [e125_0, e125_1, e125_4, e125_6, e125_8, e125_9, e125_10, e125_11, e125_12, e125_13, e125_14, gf9_0 kd_70, J_idx, gaI41 kd_71 (in71 (show i < 8 by omega) hk), J_tn (show 6 + 15 * i + k < 2147483648 by omega), R.2.2 i hi k hk, aft_v, aft_n, Option.bind_some, rf_some, ck_i, ck_r, ck_n, nb0, nb1, nbi, Nat.reduceAdd, if_true, if_false, not_false_eq_true, not_true_eq_false]
theorem s125_0 (R : Rm (β 71) α n) (h8 : n ≤ 8) {i : Nat} (hi : i < n) : Run 125 0 [some (.ref (70)), some (.int (J i)), some (.int (0))] [] (HC z γ π β η o od) = some (.inl (some (.int (α (7 + i) 0))), (HC z γ π β η o od)) := s125 R h8 hi (k := 0) (by decide)
theorem s125_1 (R : Rm (β 71) α n) (h8 : n ≤ 8) {i : Nat} (hi : i < n) : Run 125 0 [some (.ref (70)), some (.int (J i)), some (.int (1))] [] (HC z γ π β η o od) = some (.inl (some (.int (α (7 + i) 1))), (HC z γ π β η o od)) := s125 R h8 hi (k := 1) (by decide)
theorem s125_2 (R : Rm (β 71) α n) (h8 : n ≤ 8) {i : Nat} (hi : i < n) : Run 125 0 [some (.ref (70)), some (.int (J i)), some (.int (2))] [] (HC z γ π β η o od) = some (.inl (some (.int (α (7 + i) 2))), (HC z γ π β η o od)) := s125 R h8 hi (k := 2) (by decide)
theorem s125_3 (R : Rm (β 71) α n) (h8 : n ≤ 8) {i : Nat} (hi : i < n) : Run 125 0 [some (.ref (70)), some (.int (J i)), some (.int (3))] [] (HC z γ π β η o od) = some (.inl (some (.int (α (7 + i) 3))), (HC z γ π β η o od)) := s125 R h8 hi (k := 3) (by decide)
theorem s125_4 (R : Rm (β 71) α n) (h8 : n ≤ 8) {i : Nat} (hi : i < n) : Run 125 0 [some (.ref (70)), some (.int (J i)), some (.int (4))] [] (HC z γ π β η o od) = some (.inl (some (.int (α (7 + i) 4))), (HC z γ π β η o od)) := s125 R h8 hi (k := 4) (by decide)
theorem s125_5 (R : Rm (β 71) α n) (h8 : n ≤ 8) {i : Nat} (hi : i < n) : Run 125 0 [some (.ref (70)), some (.int (J i)), some (.int (5))] [] (HC z γ π β η o od) = some (.inl (some (.int (α (7 + i) 5))), (HC z γ π β η o od)) := s125 R h8 hi (k := 5) (by decide)
theorem s125_6 (R : Rm (β 71) α n) (h8 : n ≤ 8) {i : Nat} (hi : i < n) : Run 125 0 [some (.ref (70)), some (.int (J i)), some (.int (6))] [] (HC z γ π β η o od) = some (.inl (some (.int (α (7 + i) 6))), (HC z γ π β η o od)) := s125 R h8 hi (k := 6) (by decide)
theorem s125_7 (R : Rm (β 71) α n) (h8 : n ≤ 8) {i : Nat} (hi : i < n) : Run 125 0 [some (.ref (70)), some (.int (J i)), some (.int (7))] [] (HC z γ π β η o od) = some (.inl (some (.int (α (7 + i) 7))), (HC z γ π β η o od)) := s125 R h8 hi (k := 7) (by decide)
theorem s125_8 (R : Rm (β 71) α n) (h8 : n ≤ 8) {i : Nat} (hi : i < n) : Run 125 0 [some (.ref (70)), some (.int (J i)), some (.int (8))] [] (HC z γ π β η o od) = some (.inl (some (.int (α (7 + i) 9))), (HC z γ π β η o od)) := s125 R h8 hi (k := 8) (by decide)
theorem s125_9 (R : Rm (β 71) α n) (h8 : n ≤ 8) {i : Nat} (hi : i < n) : Run 125 0 [some (.ref (70)), some (.int (J i)), some (.int (9))] [] (HC z γ π β η o od) = some (.inl (some (.int (α (7 + i) 10))), (HC z γ π β η o od)) := s125 R h8 hi (k := 9) (by decide)
theorem s125_10 (R : Rm (β 71) α n) (h8 : n ≤ 8) {i : Nat} (hi : i < n) : Run 125 0 [some (.ref (70)), some (.int (J i)), some (.int (10))] [] (HC z γ π β η o od) = some (.inl (some (.int (α (7 + i) 11))), (HC z γ π β η o od)) := s125 R h8 hi (k := 10) (by decide)
theorem s125_11 (R : Rm (β 71) α n) (h8 : n ≤ 8) {i : Nat} (hi : i < n) : Run 125 0 [some (.ref (70)), some (.int (J i)), some (.int (11))] [] (HC z γ π β η o od) = some (.inl (some (.int (α (7 + i) 12))), (HC z γ π β η o od)) := s125 R h8 hi (k := 11) (by decide)
theorem s125_12 (R : Rm (β 71) α n) (h8 : n ≤ 8) {i : Nat} (hi : i < n) : Run 125 0 [some (.ref (70)), some (.int (J i)), some (.int (12))] [] (HC z γ π β η o od) = some (.inl (some (.int (α (7 + i) 8))), (HC z γ π β η o od)) := s125 R h8 hi (k := 12) (by decide)
theorem s125_13 (R : Rm (β 71) α n) (h8 : n ≤ 8) {i : Nat} (hi : i < n) : Run 125 0 [some (.ref (70)), some (.int (J i)), some (.int (13))] [] (HC z γ π β η o od) = some (.inl (some (.int (α (7 + i) 14))), (HC z γ π β η o od)) := s125 R h8 hi (k := 13) (by decide)
theorem s125_14 (R : Rm (β 71) α n) (h8 : n ≤ 8) {i : Nat} (hi : i < n) : Run 125 0 [some (.ref (70)), some (.int (J i)), some (.int (14))] [] (HC z γ π β η o od) = some (.inl (some (.int (α (7 + i) 13))), (HC z γ π β η o od)) := s125 R h8 hi (k := 14) (by decide)
theorem s126 {i k : Nat} (hi : i < 8) (hk : k < 15) (v : Int32) : Run 126 0 [some (.ref (70)), some (.int (J i)), some (.int (J k)), some (.int (v))] [] (HC z γ π β η o od) = some (.inl none, (HC z γ π (up2 β 71 (6 + 15 * i + k) v) η o od)) := by
  simp only [e126_0, e126_1, e126_4, e126_6, e126_8, e126_9, e126_10, e126_11, e126_12, e126_13, e126_14, e126_15, gf9_0 kd_70, J_idx, paI41 kd_71 (in71 hi hk), J_tn (show 6 + 15 * i + k < 2147483648 by omega), aft_v, aft_n, Option.bind_some, rf_some, ck_i, ck_r, ck_n, nb0, nb1, nbi, Nat.reduceAdd, if_true, if_false, not_false_eq_true, not_true_eq_false]
theorem s126_0 {i : Nat} (hi : i < 8) (v : Int32) : Run 126 0 [some (.ref (70)), some (.int (J i)), some (.int (0)), some (.int (v))] [] (HC z γ π β η o od) = some (.inl none, (HC z γ π (up2 β 71 (6 + 15 * i + 0) v) η o od)) := s126 hi (k := 0) (by decide) v
theorem s126_1 {i : Nat} (hi : i < 8) (v : Int32) : Run 126 0 [some (.ref (70)), some (.int (J i)), some (.int (1)), some (.int (v))] [] (HC z γ π β η o od) = some (.inl none, (HC z γ π (up2 β 71 (6 + 15 * i + 1) v) η o od)) := s126 hi (k := 1) (by decide) v
theorem s126_2 {i : Nat} (hi : i < 8) (v : Int32) : Run 126 0 [some (.ref (70)), some (.int (J i)), some (.int (2)), some (.int (v))] [] (HC z γ π β η o od) = some (.inl none, (HC z γ π (up2 β 71 (6 + 15 * i + 2) v) η o od)) := s126 hi (k := 2) (by decide) v
theorem s126_3 {i : Nat} (hi : i < 8) (v : Int32) : Run 126 0 [some (.ref (70)), some (.int (J i)), some (.int (3)), some (.int (v))] [] (HC z γ π β η o od) = some (.inl none, (HC z γ π (up2 β 71 (6 + 15 * i + 3) v) η o od)) := s126 hi (k := 3) (by decide) v
theorem s126_4 {i : Nat} (hi : i < 8) (v : Int32) : Run 126 0 [some (.ref (70)), some (.int (J i)), some (.int (4)), some (.int (v))] [] (HC z γ π β η o od) = some (.inl none, (HC z γ π (up2 β 71 (6 + 15 * i + 4) v) η o od)) := s126 hi (k := 4) (by decide) v
theorem s126_5 {i : Nat} (hi : i < 8) (v : Int32) : Run 126 0 [some (.ref (70)), some (.int (J i)), some (.int (5)), some (.int (v))] [] (HC z γ π β η o od) = some (.inl none, (HC z γ π (up2 β 71 (6 + 15 * i + 5) v) η o od)) := s126 hi (k := 5) (by decide) v
theorem s126_6 {i : Nat} (hi : i < 8) (v : Int32) : Run 126 0 [some (.ref (70)), some (.int (J i)), some (.int (6)), some (.int (v))] [] (HC z γ π β η o od) = some (.inl none, (HC z γ π (up2 β 71 (6 + 15 * i + 6) v) η o od)) := s126 hi (k := 6) (by decide) v
theorem s126_7 {i : Nat} (hi : i < 8) (v : Int32) : Run 126 0 [some (.ref (70)), some (.int (J i)), some (.int (7)), some (.int (v))] [] (HC z γ π β η o od) = some (.inl none, (HC z γ π (up2 β 71 (6 + 15 * i + 7) v) η o od)) := s126 hi (k := 7) (by decide) v
theorem s126_8 {i : Nat} (hi : i < 8) (v : Int32) : Run 126 0 [some (.ref (70)), some (.int (J i)), some (.int (8)), some (.int (v))] [] (HC z γ π β η o od) = some (.inl none, (HC z γ π (up2 β 71 (6 + 15 * i + 8) v) η o od)) := s126 hi (k := 8) (by decide) v
theorem s126_9 {i : Nat} (hi : i < 8) (v : Int32) : Run 126 0 [some (.ref (70)), some (.int (J i)), some (.int (9)), some (.int (v))] [] (HC z γ π β η o od) = some (.inl none, (HC z γ π (up2 β 71 (6 + 15 * i + 9) v) η o od)) := s126 hi (k := 9) (by decide) v
theorem s126_10 {i : Nat} (hi : i < 8) (v : Int32) : Run 126 0 [some (.ref (70)), some (.int (J i)), some (.int (10)), some (.int (v))] [] (HC z γ π β η o od) = some (.inl none, (HC z γ π (up2 β 71 (6 + 15 * i + 10) v) η o od)) := s126 hi (k := 10) (by decide) v
theorem s126_11 {i : Nat} (hi : i < 8) (v : Int32) : Run 126 0 [some (.ref (70)), some (.int (J i)), some (.int (11)), some (.int (v))] [] (HC z γ π β η o od) = some (.inl none, (HC z γ π (up2 β 71 (6 + 15 * i + 11) v) η o od)) := s126 hi (k := 11) (by decide) v
theorem s126_12 {i : Nat} (hi : i < 8) (v : Int32) : Run 126 0 [some (.ref (70)), some (.int (J i)), some (.int (12)), some (.int (v))] [] (HC z γ π β η o od) = some (.inl none, (HC z γ π (up2 β 71 (6 + 15 * i + 12) v) η o od)) := s126 hi (k := 12) (by decide) v
theorem s126_13 {i : Nat} (hi : i < 8) (v : Int32) : Run 126 0 [some (.ref (70)), some (.int (J i)), some (.int (13)), some (.int (v))] [] (HC z γ π β η o od) = some (.inl none, (HC z γ π (up2 β 71 (6 + 15 * i + 13) v) η o od)) := s126 hi (k := 13) (by decide) v
theorem s126_14 {i : Nat} (hi : i < 8) (v : Int32) : Run 126 0 [some (.ref (70)), some (.int (J i)), some (.int (14)), some (.int (v))] [] (HC z γ π β η o od) = some (.inl none, (HC z γ π (up2 β 71 (6 + 15 * i + 14) v) η o od)) := s126 hi (k := 14) (by decide) v
theorem in71h {k : Nat} (hk : k < 270) : inB (J k) (aln 71) = true := by rw [al71]; exact inB_J (by omega) (by omega)
theorem m71 (R : Rm (β 71) α n) {k : Nat} (hk : k < 6) : gaI (HC z γ π β η o od) 71 (J k) = some (α 4 k) := by
  rw [gaI41 kd_71 (in71h (by omega)), J_tn (by omega), R.1 k hk]
theorem m71_0 (R : Rm (β 71) α n) : gaI (HC z γ π β η o od) 71 0 = some (α 4 0) := m71 R (k := 0) (by decide)
theorem m71_1 (R : Rm (β 71) α n) : gaI (HC z γ π β η o od) 71 1 = some (α 4 1) := m71 R (k := 1) (by decide)
theorem m71_2 (R : Rm (β 71) α n) : gaI (HC z γ π β η o od) 71 2 = some (α 4 2) := m71 R (k := 2) (by decide)
theorem m71_3 (R : Rm (β 71) α n) : gaI (HC z γ π β η o od) 71 3 = some (α 4 3) := m71 R (k := 3) (by decide)
theorem m71_4 (R : Rm (β 71) α n) : gaI (HC z γ π β η o od) 71 4 = some (α 4 4) := m71 R (k := 4) (by decide)
theorem m71_5 (R : Rm (β 71) α n) : gaI (HC z γ π β η o od) 71 5 = some (α 4 5) := m71 R (k := 5) (by decide)
theorem s122 (R : Rm (β 71) α n) : Run 122 0 [some (.ref (70))] [] (HC z γ π β η o od) = some (.inl (some (.int (α 4 0 * α 4 1))), (HC z γ π β η o od)) := by
  simp only [e122_0, e122_1, e122_4, e122_5, e122_6, e122_7, e122_10, e122_11, e122_12, e122_13, gf9_0 kd_70, m71_0 R, m71_1 R, aft_v, aft_n, Option.bind_some, rf_some, ck_i, ck_r, ck_n, nb0, nb1, nbi, Nat.reduceAdd, if_true, if_false, not_false_eq_true, not_true_eq_false]
theorem bi_c {p q : Prop} [Decidable p] [Decidable q] (h : p ↔ q) : bi p = bi q := by unfold bi; by_cases w : q; rw [if_pos w, if_pos (h.mpr w)]; rw [if_neg w, if_neg (fun x => w (h.mp x))]
theorem s123 (H : Ok α n) (R : Rm (β 71) α n) (c : Int32) : Run 123 0 [some (.ref (70)), some (.int (c))] [] (HC z γ π β η o od) = some (.inl (some (.int (bi (isCellC α 4 c)))), (HC z γ π β η o od)) := by
  have hw := H.wh
  have e := sub_ti (x := α 4 0 * α 4 1) (y := 1) (by rw [ti1]; omega) (by rw [ti1]; omega)
  have hb : bi (¬ c < 0 ∧ ¬ α 4 0 * α 4 1 - 1 < c) = bi (isCellC α 4 c) := bi_c (by
    unfold isCellC
    rw [i32_lt, i32_lt, i32_le, i32_lt, i32_lt, e, ti0, ti1, ti144, hw.1]
    omega)
  simp only [e123_0, e123_1, e123_2, e123_3, e123_6, e123_7, e123_8, e123_11, isO70, s122 R, s118, hb, aft_v, aft_n, Option.bind_some, rf_some, ck_i, ck_r, ck_n, nb0, nb1, nbi, Nat.reduceAdd, if_true, if_false, not_false_eq_true, not_true_eq_false]
theorem s124 (H : Ok α n) (R : Rm (β 71) α n) (c : Int32) : Run 124 0 [some (.ref (70)), some (.int (c))] [] (HC z γ π β η o od) = some (.inl (some (.int (bi (isShipC α 4 c)))), (HC z γ π β η o od)) := by
  have h8 := H.n8
  have hn := H.hn
  have e := sub_ti (x := J n) (y := 1) (by rw [J_ti (by omega), ti1]; omega) (by rw [J_ti (by omega), ti1]; omega)
  have hb : bi (¬ c < 0 ∧ ¬ α 4 5 - 1 < c) = bi (isShipC α 4 c) := bi_c (by
    unfold isShipC
    rw [hn, i32_lt, i32_lt, i32_le, i32_lt, i32_lt, e, ti0, ti1, ti8, J_ti (by omega)]
    omega)
  simp only [e124_0, e124_1, e124_2, e124_3, e124_6, e124_7, e124_8, e124_9, e124_10, e124_13, gf9_0 kd_70, m71_5 R, s118, hb, aft_v, aft_n, Option.bind_some, rf_some, ck_i, ck_r, ck_n, nb0, nb1, nbi, Nat.reduceAdd, if_true, if_false, not_false_eq_true, not_true_eq_false]
theorem s127 (R : Rm (β 71) α n) (h8 : n ≤ 8) {i : Nat} (hi : i < n) : Run 127 0 [some (.ref (70)), some (.int (J i))] [] (HC z γ π β η o od) = some (.inl (some (.int (bi (0 < α (7 + i) 3)))), (HC z γ π β η o od)) := by
  unfold bi
  simp only [e127_0, e127_1, e127_2, e127_3, e127_6, e127_9, e127_10, e127_13, e127_14, isO70, s125_3 R h8 hi, le_not, aft_v, aft_n, Option.bind_some, rf_some, ck_i, ck_r, ck_n, nb0, nb1, nbi, Nat.reduceAdd, if_true, if_false, not_false_eq_true, not_true_eq_false]
  by_cases q : 0 < α (7 + i) 3 <;> simp only [q, aft_v, aft_n, Option.bind_some, rf_some, ck_i, ck_r, ck_n, nb0, nb1, nbi, Nat.reduceAdd, if_true, if_false, not_false_eq_true, not_true_eq_false]
theorem s128 : ∀ e, e < 6 → Run 128 0 [some (.int (J e))] [] (HC z γ π β η o od) = some (.inl (some (.int (rowStep e))), (HC z γ π β η o od)) := by
  intro e he
  have h : e = 0 ∨ e = 1 ∨ e = 2 ∨ e = 3 ∨ e = 4 ∨ e = 5 := by omega
  rcases h with rfl | rfl | rfl | rfl | rfl | rfl
  all_goals (simp only [↓reduceIte, e128_0, e128_1, e128_2, e128_5, e128_6, e128_7, e128_10, e128_11, e128_14, e128_15, e128_16, e128_19, e128_20, e128_21, e128_24, e128_25, e128_28, e128_29, show (J 0 : Int32) = 0 from rfl, show (J 1 : Int32) = 1 from rfl, show (J 2 : Int32) = 2 from rfl, show (J 3 : Int32) = 3 from rfl, show (J 4 : Int32) = 4 from rfl, show (J 5 : Int32) = 5 from rfl, ln0_1, ln0_2, ln0_3, ln0_4, ln0_5, ln1_0, ln1_2, ln1_3, ln1_4, ln1_5, ln2_0, ln2_1, ln2_3, ln2_4, ln2_5, ln3_0, ln3_1, ln3_2, ln3_4, ln3_5, ln4_0, ln4_1, ln4_2, ln4_3, ln4_5, ln5_0, ln5_1, ln5_2, ln5_3, ln5_4, aft_v, aft_n, Option.bind_some, rf_some, ck_i, ck_r, ck_n, nb0, nb1, nbi, Nat.reduceAdd, if_true, if_false, not_false_eq_true, not_true_eq_false]; try rfl)
theorem s129 : ∀ e, e < 6 → Run 129 0 [some (.int (J e))] [] (HC z γ π β η o od) = some (.inl (some (.int (colStep e))), (HC z γ π β η o od)) := by
  intro e he
  have h : e = 0 ∨ e = 1 ∨ e = 2 ∨ e = 3 ∨ e = 4 ∨ e = 5 := by omega
  rcases h with rfl | rfl | rfl | rfl | rfl | rfl
  all_goals (simp only [↓reduceIte, e129_0, e129_1, e129_4, e129_5, e129_6, e129_9, e129_10, e129_13, e129_14, e129_15, e129_18, e129_19, e129_20, e129_23, e129_24, e129_27, e129_28, show (J 0 : Int32) = 0 from rfl, show (J 1 : Int32) = 1 from rfl, show (J 2 : Int32) = 2 from rfl, show (J 3 : Int32) = 3 from rfl, show (J 4 : Int32) = 4 from rfl, show (J 5 : Int32) = 5 from rfl, ln0_1, ln0_2, ln0_3, ln0_4, ln0_5, ln1_0, ln1_2, ln1_3, ln1_4, ln1_5, ln2_0, ln2_1, ln2_3, ln2_4, ln2_5, ln3_0, ln3_1, ln3_2, ln3_4, ln3_5, ln4_0, ln4_1, ln4_2, ln4_3, ln4_5, ln5_0, ln5_1, ln5_2, ln5_3, ln5_4, aft_v, aft_n, Option.bind_some, rf_some, ck_i, ck_r, ck_n, nb0, nb1, nbi, Nat.reduceAdd, if_true, if_false, not_false_eq_true, not_true_eq_false]; try rfl)
end S37
