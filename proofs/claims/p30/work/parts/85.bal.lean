/-! the balance of both sides, as numbers -/
/-- 2 to the 1023rd -/
def PP : Nat := 2 ^ 1023
theorem PP_pow (x : Nat) : PP * 2 ^ x = 2 ^ (1023 + x) := by unfold PP; rw [Nat.pow_add]
theorem PP_x (B x : Nat) : B * 2 ^ (1023 + x) = 2 ^ x * (PP * B) := by rw [← PP_pow, Nat.mul_comm B, Nat.mul_right_comm, Nat.mul_comm _ (2 ^ x)]
/-- one, in units of 2 to the -1075 -/
def UU : Nat := 2 ^ 52 * PP
theorem PP_pos : 0 < PP := by unfold PP; exact Nat.two_pow_pos _
theorem UU_pow : UU = 2 ^ (1075 : Int).toNat := by unfold UU; rw [Nat.mul_comm, PP_pow]; rfl
theorem UU_pos : 0 < UU := by rw [UU_pow]; exact Nat.two_pow_pos _
theorem UU2 (B : Nat) : 2 * (UU * B) = 2 ^ 53 * (PP * B) := by unfold UU; rw [Nat.mul_assoc, ← Nat.mul_assoc 2]
theorem UU1 (B : Nat) : UU * B = 2 ^ 52 * (PP * B) := by unfold UU; rw [Nat.mul_assoc]
theorem p2pos (x : Nat) : 0 < 2 ^ x := Nat.two_pow_pos x
theorem mono_le {A B x y x' y' : Nat} (h : A * 2 ^ x ≤ B * 2 ^ y) (hx : x' + y ≤ x + y') : A * 2 ^ x' ≤ B * 2 ^ y' := by
  refine Nat.le_of_mul_le_mul_right ?_ (p2pos y)
  calc A * 2 ^ x' * 2 ^ y = A * 2 ^ (x' + y) := by rw [Nat.pow_add, Nat.mul_assoc]
    _ ≤ A * 2 ^ (x + y') := Nat.mul_le_mul_left _ (Nat.pow_le_pow_right (by decide) hx)
    _ = A * 2 ^ x * 2 ^ y' := by rw [Nat.pow_add, Nat.mul_assoc]
    _ ≤ B * 2 ^ y * 2 ^ y' := Nat.mul_le_mul_right _ h
    _ = B * 2 ^ y' * 2 ^ y := Nat.mul_right_comm _ _ _
theorem mono_lt {A B x y x' y' : Nat} (h : A * 2 ^ x < B * 2 ^ y) (hx : x' + y ≤ x + y') : A * 2 ^ x' < B * 2 ^ y' := by
  refine Nat.lt_of_mul_lt_mul_right (a := 2 ^ y) ?_
  calc A * 2 ^ x' * 2 ^ y = A * 2 ^ (x' + y) := by rw [Nat.pow_add, Nat.mul_assoc]
    _ ≤ A * 2 ^ (x + y') := Nat.mul_le_mul_left _ (Nat.pow_le_pow_right (by decide) hx)
    _ = A * 2 ^ x * 2 ^ y' := by rw [Nat.pow_add, Nat.mul_assoc]
    _ < B * 2 ^ y * 2 ^ y' := Nat.mul_lt_mul_of_pos_right h (p2pos y')
    _ = B * 2 ^ y' * 2 ^ y := Nat.mul_right_comm _ _ _
theorem lead_le {A B : Nat} (hA : 0 < A) : B * 2 ^ (FP.Core.leading A B).toNat ≤ A * 2 ^ (-(FP.Core.leading A B)).toNat := by
  unfold FP.Core.leading
  dsimp only
  split
  · assumption
  · have h1 : 2 ^ A.log2 ≤ A := Nat.log2_self_le (by omega)
    have h2 : B < 2 ^ (B.log2 + 1) := Nat.lt_log2_self
    generalize A.log2 = a at h1 ⊢
    generalize B.log2 = b at h2 ⊢
    have h3 : B * 2 ^ a ≤ A * 2 ^ (b + 1) := by
      rw [Nat.mul_comm B]
      exact Nat.mul_le_mul h1 (Nat.le_of_lt h2)
    exact mono_le h3 (by omega)
theorem lead_lt {A B : Nat} (hB : 0 < B) : A * 2 ^ (-(FP.Core.leading A B + 1)).toNat < B * 2 ^ (FP.Core.leading A B + 1).toNat := by
  unfold FP.Core.leading
  dsimp only
  split
  · have h1 : A < 2 ^ (A.log2 + 1) := Nat.lt_log2_self
    have h2 : 2 ^ B.log2 ≤ B := Nat.log2_self_le (by omega)
    generalize A.log2 = a at h1 ⊢
    generalize B.log2 = b at h2 ⊢
    have h3 : A * 2 ^ b < B * 2 ^ (a + 1) := by
      rw [Nat.mul_comm B]
      exact Nat.mul_lt_mul_of_lt_of_le h1 h2 hB
    exact mono_lt h3 (by omega)
  · next h =>
    rw [Int.sub_add_cancel]
    exact Nat.lt_of_not_le h
theorem near_spec {N D : Nat} (hD : 0 < D) : 2 * (FP.Core.nearest N D * D) ≤ 2 * N + D ∧ 2 * N ≤ 2 * (FP.Core.nearest N D * D) + D := by
  have e := Nat.div_add_mod N D
  have l := Nat.mod_lt N hD
  have m2 : N / D % 2 = 0 ∨ N / D % 2 = 1 := by omega
  rw [Nat.mul_comm] at e
  unfold FP.Core.nearest
  split
  · omega
  · split
    · rw [Nat.add_mul]; omega
    · rcases m2 with q | q <;> rw [q] <;> (try rw [Nat.add_mul]) <;> omega
theorem near_le {N D M : Nat} (hD : 0 < D) (h : N ≤ M * D) : FP.Core.nearest N D ≤ M := by
  obtain ⟨h1, -⟩ := near_spec (N := N) hD
  refine Nat.le_of_not_lt fun w => ?_
  have := Nat.mul_le_mul_right D (show M + 1 ≤ _ from w)
  rw [Nat.add_mul] at this
  omega
theorem near_ge {N D M : Nat} (hD : 0 < D) (h : M * D ≤ N) : M ≤ FP.Core.nearest N D := by
  obtain ⟨-, h1⟩ := near_spec (N := N) hD
  refine Nat.le_of_not_lt fun w => ?_
  have := Nat.mul_le_mul_right D (show FP.Core.nearest N D + 1 ≤ M from w)
  rw [Nat.add_mul] at this
  omega
/-- the number c times 2 to the q, in units of 2 to the -1075 -/
def XV (c : Nat) (q : Int) : Nat := c * 2 ^ (q + 1075).toNat
theorem b64_qmin : FP.Core.b64.qmin = -1074 := by decide
theorem b64_qmax : FP.Core.b64.qmax = 971 := by decide
theorem b64_tails : FP.Core.b64.tails = 2 ^ 52 := by decide
/-- what rounding gives, for a number below 2 -/
theorem rr {A B : Nat} {e : Int} (hB : 0 < B) (he : -1075 ≤ e) (hv : A * 2 ^ (e + 1075).toNat < 2 * (UU * B)) : ∃ c q, FP.Core.roundRatio FP.Core.b64 false A B e = .fin false c q ∧ c < 2 ^ 53 ∧ -1074 ≤ q ∧ q ≤ 971 ∧ (q = -1074 ∨ 2 ^ 52 ≤ c) ∧ 2 * (XV c q * B) ≤ 2 * (A * 2 ^ (e + 1075).toNat) + PP * B ∧ 2 * (A * 2 ^ (e + 1075).toNat) ≤ 2 * (XV c q * B) + PP * B ∧ (A * 2 ^ (e + 1075).toNat ≤ UU * B → XV c q ≤ UU) := by
  rw [UU2] at hv
  rw [UU1, show UU = 2 ^ 52 * PP from rfl]
  unfold FP.Core.roundRatio
  by_cases hA0 : A = 0
  · refine ⟨0, -1074, ?_, by decide, by decide, by decide, Or.inl rfl, ?_, ?_, fun _ => ?_⟩
    · rw [if_pos hA0, b64_qmin]
    · unfold XV; rw [Nat.zero_mul, Nat.zero_mul]; omega
    · rw [hA0, Nat.zero_mul]; omega
    · unfold XV; rw [Nat.zero_mul]; omega
  · have hA : 0 < A := by omega
    rw [if_neg hA0]
    have l1 := lead_le (B := B) hA
    have l2 := lead_lt (A := A) hB
    unfold FP.Core.quantum
    rw [b64_qmin, show ((FP.Core.b64.p : Int) - 1) = 52 by decide]
    generalize FP.Core.leading A B = l at l1 l2 ⊢
    have e53 : B * 2 ^ (1023 + 53) = 2 ^ 53 * (PP * B) := PP_x B 53
    have e52 : B * 2 ^ (1023 + 52) = 2 ^ 52 * (PP * B) := PP_x B 52
    have hv' := hv
    rw [← e53] at hv'
    have hl : l + e ≤ 0 := by
      refine Int.le_of_not_gt fun w => ?_
      exact absurd hv' (Nat.not_lt.mpr (mono_le l1 (by omega)))
    have q1 : (-1074 : Int) ≤ max (-1074) (l + e - 52) := Int.le_max_left _ _
    have q2 : l + e - 52 ≤ max (-1074) (l + e - 52) := Int.le_max_right _ _
    have q3 : max (-1074) (l + e - 52) = -1074 ∨ max (-1074) (l + e - 52) = l + e - 52 := by omega
    generalize max (-1074) (l + e - 52) = r at q1 q2 q3 ⊢
    have hr : r ≤ -52 := by omega
    unfold FP.Core.roundAt FP.Core.unitsNum FP.Core.unitsDen
    have hD : 0 < B * 2 ^ (r - e).toNat := Nat.mul_pos hB (p2pos _)
    have s1 : A * 2 ^ (e - r).toNat < 2 ^ 53 * (B * 2 ^ (r - e).toNat) := by
      rw [Nat.mul_comm (2 ^ 53), Nat.mul_assoc, ← Nat.pow_add]
      exact mono_lt l2 (by omega)
    have n1 : FP.Core.nearest (A * 2 ^ (e - r).toNat) (B * 2 ^ (r - e).toNat) ≤ 2 ^ 53 := near_le hD (Nat.le_of_lt s1)
    have n2 : r = -1074 ∨ 2 ^ 52 ≤ FP.Core.nearest (A * 2 ^ (e - r).toNat) (B * 2 ^ (r - e).toNat) := by
      rcases q3 with q3 | q3
      · exact Or.inl q3
      · refine Or.inr (near_ge hD ?_)
        rw [Nat.mul_comm (2 ^ 52), Nat.mul_assoc, ← Nat.pow_add]
        exact mono_le l1 (by omega)
    have n3 : A * 2 ^ (e + 1075).toNat ≤ 2 ^ 52 * (PP * B) → FP.Core.nearest (A * 2 ^ (e - r).toNat) (B * 2 ^ (r - e).toNat) ≤ 2 ^ (-r).toNat := by
      intro w
      refine near_le hD ?_
      rw [Nat.mul_comm (2 ^ _), Nat.mul_assoc, ← Nat.pow_add]
      have w' := w
      rw [← e52] at w'
      exact mono_le w' (by omega)
    obtain ⟨n4, n5⟩ := near_spec (N := A * 2 ^ (e - r).toNat) hD
    have m4 := Nat.mul_le_mul_right (2 ^ (min e r + 1075).toNat) n4
    have m5 := Nat.mul_le_mul_right (2 ^ (min e r + 1075).toNat) n5
    generalize hn : FP.Core.nearest (A * 2 ^ (e - r).toNat) (B * 2 ^ (r - e).toNat) = n at n1 n2 n3 m4 m5 ⊢
    have eA : A * 2 ^ (e - r).toNat * 2 ^ (min e r + 1075).toNat = A * 2 ^ (e + 1075).toNat := by
      rw [Nat.mul_assoc, ← Nat.pow_add, show (e - r).toNat + (min e r + 1075).toNat = (e + 1075).toNat by omega]
    have eB : B * 2 ^ (r - e).toNat * 2 ^ (min e r + 1075).toNat = 2 ^ (r + 1075).toNat * B := by
      rw [Nat.mul_assoc, ← Nat.pow_add, show (r - e).toNat + (min e r + 1075).toNat = (r + 1075).toNat by omega, Nat.mul_comm]
    have eN : n * (B * 2 ^ (r - e).toNat) * 2 ^ (min e r + 1075).toNat = XV n r * B := by
      rw [Nat.mul_assoc, eB, ← Nat.mul_assoc]; rfl
    have eP : 2 ^ (r + 1075).toNat * B ≤ PP * B := Nat.mul_le_mul_right _ (Nat.pow_le_pow_right (by decide) (by omega))
    rw [Nat.add_mul, Nat.mul_assoc 2, Nat.mul_assoc 2, eN, eA, eB] at m4 m5
    have hX : A * 2 ^ (e + 1075).toNat ≤ 2 ^ 52 * (PP * B) → XV n r ≤ 2 ^ 52 * PP := fun w => by
      have h := Nat.mul_le_mul_right (2 ^ (r + 1075).toNat) (n3 w)
      rw [← Nat.pow_add, show (-r).toNat + (r + 1075).toNat = 1023 + 52 by omega, ← PP_pow, Nat.mul_comm PP] at h
      exact h
    have fin : ∃ c q, FP.Core.settle FP.Core.b64 false n r = .fin false c q ∧ c < 2 ^ 53 ∧ -1074 ≤ q ∧ q ≤ 971 ∧ (q = -1074 ∨ 2 ^ 52 ≤ c) ∧ XV c q = XV n r := by
      unfold FP.Core.settle FP.Core.bound
      rw [show (2 : Nat) ^ FP.Core.b64.p = 2 ^ 53 from rfl, b64_qmax, b64_tails]
      by_cases w : n < 2 ^ 53
      · rw [if_pos w, if_pos (by omega)]
        exact ⟨n, r, rfl, w, q1, by omega, n2, rfl⟩
      · rw [if_neg w, if_pos (by omega)]
        refine ⟨2 ^ 52, r + 1, rfl, by decide, by omega, by omega, Or.inr (Nat.le_refl _), ?_⟩
        have : n = 2 ^ 53 := by omega
        rw [this]
        unfold XV
        rw [← Nat.pow_add, ← Nat.pow_add, show 52 + (r + 1 + 1075).toNat = 53 + (r + 1075).toNat by omega]
    obtain ⟨c, q, f1, f2, f3, f4, f5, f6⟩ := fin
    refine ⟨c, q, f1, f2, f3, f4, f5, ?_, ?_, ?_⟩
    · rw [f6]; omega
    · rw [f6]; omega
    · rw [f6]; exact hX
def finV (k : Nat) (d : FP.Core.Datum) : Bool := match d with
  | .fin s c q => !s && decide (-1074 ≤ q) && decide (q ≤ 0) && decide (XV c q = k * UU)
  | _ => false
theorem i2d_tabV : ∀ k, k < 961 → finV k (FP.Core.decode FP.Core.b64 (FP.i2d (Int32.ofNat k)).toNat) = true := by decide +kernel
theorem i2d_V {k : Nat} (h : k < 961) : ∃ c q, FP.Core.decode FP.Core.b64 (FP.i2d (Int32.ofNat k)).toNat = .fin false c q ∧ -1074 ≤ q ∧ q ≤ 0 ∧ XV c q = k * UU := by
  have t := i2d_tabV k h
  cases hd : FP.Core.decode FP.Core.b64 (FP.i2d (Int32.ofNat k)).toNat with
  | nan => rw [hd] at t; exact absurd t (by simp [finV])
  | inf s => rw [hd] at t; exact absurd t (by simp [finV])
  | fin s c q =>
    rw [hd] at t
    unfold finV at t
    simp only [Bool.and_eq_true, decide_eq_true_eq, Bool.not_eq_true'] at t
    obtain ⟨⟨⟨t1, t2⟩, t3⟩, t4⟩ := t
    subst t1
    exact ⟨c, q, rfl, t2, t3, t4⟩
/-- what is written is read again -/
theorem dec_enc {c : Nat} {q : Int} (hc : c < 2 ^ 53) (h1 : -1074 ≤ q) (h2 : q ≤ 971) (h3 : q = -1074 ∨ 2 ^ 52 ≤ c) : FP.Core.decode FP.Core.b64 (UInt64.ofNat (FP.Core.encode FP.Core.b64 (.fin false c q))).toNat = .fin false c q := by
  have t2 : FP.Core.b64.exps = 2048 := by decide
  have e1 : ∀ e t : Nat, e ≤ 2046 → t < 4503599627370496 → (e ≠ 0 → q = -1074 + ((e : Int) - 1) ∧ c = 4503599627370496 + t) → (e = 0 → q = -1074 ∧ c = t) → FP.Core.decode FP.Core.b64 (UInt64.ofNat (e * 4503599627370496 + t)).toNat = .fin false c q := by
    intro e t he ht w1 w0
    have e0 : (UInt64.ofNat (e * 4503599627370496 + t)).toNat = e * 4503599627370496 + t := by rw [UInt64.toNat_ofNat']; omega
    have d1 : (e * 4503599627370496 + t) / 4503599627370496 = e := by omega
    have d2 : (e * 4503599627370496 + t) % 4503599627370496 = t := by omega
    have d3 : e % 2048 = e := by omega
    have d4 : e / 2048 = 0 := by omega
    rw [e0]
    unfold FP.Core.decode FP.Core.fieldE FP.Core.fieldT FP.Core.fieldS
    rw [b64_tails, t2, show (2 : Nat) ^ 52 = 4503599627370496 by decide, b64_qmin, d1, d2, d3, d4]
    rw [if_neg (by omega)]
    by_cases w : e = 0
    · rw [if_pos w, (w0 w).1, (w0 w).2]; rfl
    · rw [if_neg w, (w1 w).1, (w1 w).2]; rfl
  unfold FP.Core.encode FP.Core.assemble
  simp only [b64_tails, t2, b64_qmin, show (2 : Nat) ^ 52 = 4503599627370496 by decide, show false.toNat = 0 by decide, Nat.zero_mul, Nat.zero_add]
  rw [show (2 : Nat) ^ 52 = 4503599627370496 by decide] at h3
  rw [show (2 : Nat) ^ 53 = 9007199254740992 by decide] at hc
  by_cases w : c < 4503599627370496
  · rw [if_pos w]
    have := e1 0 c (by omega) w (fun z => absurd rfl z) (fun _ => ⟨by omega, rfl⟩)
    rw [Nat.zero_mul, Nat.zero_add] at this
    exact this
  · rw [if_neg w]
    exact e1 ((q - -1074).toNat + 1) (c - 4503599627370496) (by omega) (by omega) (fun _ => ⟨by omega, by omega⟩) (fun z => absurd z (by omega))
/-- two data in order -/
theorem ordV {c d : Nat} {q r : Int} {op : CmpOp} (hq : -1075 ≤ q) (hr : -1075 ≤ r) : Op.cmpValue (FP.Core.order (.fin false c q) (.fin false d r)) op = if XV c q < XV d r then -1 else if XV c q = XV d r then 0 else 1 := by
  have e : ∀ s : Int, min q r ≤ s → ∀ x, FP.Core.inUnits x s (min q r) * 2 ^ (min q r + 1075).toNat = XV x s := fun s h2 x => by
    unfold FP.Core.inUnits XV
    rw [Nat.mul_assoc, ← Nat.pow_add, show (s - min q r).toNat + (min q r + 1075).toNat = (s + 1075).toNat by omega]
  rw [← e q (by omega) c, ← e r (by omega) d]
  show Op.cmpValue (some (compareOfLessAndEq ((FP.Core.inUnits c q (min q r) : Nat) : Int) ((FP.Core.inUnits d r (min q r) : Nat) : Int))) op = _
  have hp := p2pos (min q r + 1075).toNat
  generalize 2 ^ (min q r + 1075).toNat = P at hp
  generalize FP.Core.inUnits c q (min q r) = a
  generalize FP.Core.inUnits d r (min q r) = b
  unfold compareOfLessAndEq
  rcases Nat.lt_trichotomy a b with w | w | w
  · rw [if_pos (by omega), if_pos (Nat.mul_lt_mul_of_pos_right w hp)]; rfl
  · rw [if_neg (by omega), if_pos (by omega), if_neg (by rw [w]; omega), if_pos (by rw [w])]; rfl
  · have := Nat.mul_lt_mul_of_pos_right w hp
    rw [if_neg (by omega), if_neg (by omega), if_neg (by omega), if_neg (by omega)]; rfl
/-- the quotient of two small numbers -/
theorem quoV {k m : Nat} (hk : k ≤ m) (h0 : 0 < m) (hm : m < 961) : ∃ c q, FP.Core.decode FP.Core.b64 (FP.ddiv (FP.i2d (Int32.ofNat k)) (FP.i2d (Int32.ofNat m))).toNat = .fin false c q ∧ -1074 ≤ q ∧ 2 * (XV c q * m) ≤ 2 * (k * UU) + PP * m ∧ 2 * (k * UU) ≤ 2 * (XV c q * m) + PP * m ∧ XV c q ≤ UU := by
  obtain ⟨c, q, e1, q1, q2, hc⟩ := i2d_V (show k < 961 by omega)
  obtain ⟨d, r, e2, r1, r2, hd⟩ := i2d_V hm
  have hd0 : ¬ d = 0 := fun w => by
    rw [w] at hd
    unfold XV at hd
    rw [Nat.zero_mul] at hd
    have := Nat.mul_pos h0 UU_pos
    omega
  have R : 0 < 2 ^ (r + 1075).toNat := p2pos _
  have eq1 : c * 2 ^ (q - r + 1075).toNat * 2 ^ (r + 1075).toNat = k * (UU * UU) := by
    rw [← Nat.mul_assoc, ← hc]
    unfold XV
    rw [UU_pow, Nat.mul_assoc, ← Nat.pow_add, Nat.mul_assoc, ← Nat.pow_add, show (q - r + 1075).toNat + (r + 1075).toNat = (q + 1075).toNat + (1075 : Int).toNat by omega]
  have eq2 : d * 2 ^ (r + 1075).toNat = m * UU := hd
  have eq3 : UU * d * 2 ^ (r + 1075).toNat = m * (UU * UU) := by rw [Nat.mul_assoc, eq2, Nat.mul_left_comm]
  have hkm := Nat.mul_le_mul_right (UU * UU) hk
  have hm0 := Nat.mul_pos h0 (Nat.mul_pos UU_pos UU_pos)
  have hle : c * 2 ^ (q - r + 1075).toNat ≤ UU * d := by
    refine Nat.le_of_mul_le_mul_right ?_ R
    rw [eq1, eq3]
    exact hkm
  have hv : c * 2 ^ (q - r + 1075).toNat < 2 * (UU * d) := by
    have := Nat.mul_pos UU_pos (show 0 < d by omega)
    omega
  obtain ⟨x, y, w1, w2, w3, w4, w5, w6, w7, w8⟩ := rr (A := c) (B := d) (e := q - r) (by omega) (by omega) hv
  refine ⟨x, y, ?_, w3, ?_, ?_, ?_⟩
  · rw [← dec_enc w2 w3 w4 w5, ← w1]
    show FP.Core.decode FP.Core.b64 (UInt64.ofNat (FP.Core.encode FP.Core.b64 (FP.Core.quotient FP.Core.b64 (FP.Core.decode FP.Core.b64 (FP.i2d (Int32.ofNat k)).toNat) (FP.Core.decode FP.Core.b64 (FP.i2d (Int32.ofNat m)).toNat)))).toNat = _
    rw [e1, e2]
    unfold FP.Core.quotient
    simp only [hd0, if_false]
    rfl
  · have h := Nat.mul_le_mul_right (2 ^ (r + 1075).toNat) w6
    rw [Nat.add_mul, Nat.mul_assoc 2, Nat.mul_assoc 2, eq1, Nat.mul_assoc (XV x y), Nat.mul_assoc PP, eq2] at h
    refine Nat.le_of_mul_le_mul_right ?_ UU_pos
    rw [Nat.add_mul, Nat.mul_assoc 2, Nat.mul_assoc 2, Nat.mul_assoc, Nat.mul_assoc, Nat.mul_assoc]
    exact h
  · have h := Nat.mul_le_mul_right (2 ^ (r + 1075).toNat) w7
    rw [Nat.add_mul, Nat.mul_assoc 2, Nat.mul_assoc 2, eq1, Nat.mul_assoc (XV x y), Nat.mul_assoc PP, eq2] at h
    refine Nat.le_of_mul_le_mul_right ?_ UU_pos
    rw [Nat.add_mul, Nat.mul_assoc 2, Nat.mul_assoc 2, Nat.mul_assoc, Nat.mul_assoc, Nat.mul_assoc]
    exact h
  · exact w8 hle
/-- the sum of two such numbers -/
theorem sumV {va vb : UInt64} {c d : Nat} {q r : Int} (e1 : FP.Core.decode FP.Core.b64 va.toNat = .fin false c q) (e2 : FP.Core.decode FP.Core.b64 vb.toNat = .fin false d r) (hq : -1074 ≤ q) (hr : -1074 ≤ r) (hS : XV c q + XV d r < 2 * UU) : ∃ x y N, FP.dadd va vb = UInt64.ofNat (FP.Core.encode FP.Core.b64 (FP.Core.roundRatio FP.Core.b64 false N 1 (min q r))) ∧ FP.Core.decode FP.Core.b64 (FP.dadd va vb).toNat = .fin false x y ∧ -1074 ≤ y ∧ 2 * XV x y ≤ 2 * (XV c q + XV d r) + PP ∧ 2 * (XV c q + XV d r) ≤ 2 * XV x y + PP := by
  have e : ∀ s : Int, min q r ≤ s → ∀ x, FP.Core.inUnits x s (min q r) * 2 ^ (min q r + 1075).toNat = XV x s := fun s h2 x => by
    unfold FP.Core.inUnits XV
    rw [Nat.mul_assoc, ← Nat.pow_add, show (s - min q r).toNat + (min q r + 1075).toNat = (s + 1075).toNat by omega]
  have x1 := e q (by omega) c
  have x2 := e r (by omega) d
  have xs : (FP.Core.inUnits c q (min q r) + FP.Core.inUnits d r (min q r)) * 2 ^ (min q r + 1075).toNat = XV c q + XV d r := by rw [Nat.add_mul, x1, x2]
  have ad : FP.dadd va vb = UInt64.ofNat (FP.Core.encode FP.Core.b64 (FP.Core.roundRatio FP.Core.b64 false (FP.Core.inUnits c q (min q r) + FP.Core.inUnits d r (min q r)) 1 (min q r))) := by
    show UInt64.ofNat (FP.Core.encode FP.Core.b64 (FP.Core.round FP.Core.b64 (FP.Core.exactSum (FP.Core.decode FP.Core.b64 va.toNat) (FP.Core.decode FP.Core.b64 vb.toNat)))) = _
    rw [e1, e2]
    show UInt64.ofNat (FP.Core.encode FP.Core.b64 (FP.Core.roundRatio FP.Core.b64 (FP.Core.sumSign false false (((FP.Core.inUnits c q (min q r) : Nat) : Int) + ((FP.Core.inUnits d r (min q r) : Nat) : Int))) (((FP.Core.inUnits c q (min q r) : Nat) : Int) + ((FP.Core.inUnits d r (min q r) : Nat) : Int)).natAbs 1 (min q r))) = _
    generalize FP.Core.inUnits c q (min q r) = a
    generalize FP.Core.inUnits d r (min q r) = b
    have s0 : FP.Core.sumSign false false ((a : Int) + (b : Int)) = false := by
      unfold FP.Core.sumSign
      split
      · rfl
      · exact decide_eq_false (by omega)
    rw [s0, show ((a : Int) + (b : Int)).natAbs = a + b by omega]
  obtain ⟨x, y, w1, w2, w3, w4, w5, w6, w7, -⟩ := rr (A := FP.Core.inUnits c q (min q r) + FP.Core.inUnits d r (min q r)) (B := 1) (e := min q r) (by decide) (by omega) (by rw [xs]; omega)
  refine ⟨x, y, _, ad, ?_, w3, ?_, ?_⟩
  · rw [ad, w1]; exact dec_enc w2 w3 w4 w5
  · rw [xs] at w6; omega
  · rw [xs] at w7; omega
theorem d0V : FP.Core.decode FP.Core.b64 FP.dconst0.toNat = .fin false 0 (-1074) := by decide +kernel
theorem d1V : FP.Core.decode FP.Core.b64 FP.dconst1.toNat = .fin false 4503599627370496 (-52) := by decide +kernel
theorem loV : FP.Core.decode FP.Core.b64 (4607173411600762667 : UInt64).toNat = .fin false 8998192055486251 (-53) := by decide +kernel
theorem hiV : FP.Core.decode FP.Core.b64 (4607186922399644778 : UInt64).toNat = .fin false 4508103226997866 (-52) := by decide +kernel
theorem X0 : XV 0 (-1074) = 0 := by unfold XV; rw [Nat.zero_mul]
theorem X1 : XV 4503599627370496 (-52) = 4503599627370496 * PP := by decide +kernel
theorem UU_eq : UU = 4503599627370496 * PP := by decide +kernel
theorem Xlo : 2 * XV 8998192055486251 (-53) = 8998192055486251 * PP := by decide +kernel
theorem Xhi : XV 4508103226997866 (-52) = 4508103226997866 * PP := by decide +kernel
theorem lo_lt {w X S P U : Nat} (hP : 0 < P) (h1 : 2 * w = 8998192055486251 * P) (h2 : U = 4503599627370496 * P) (h3 : 2 * S ≤ 2 * X + P) (h4 : 2 * U ≤ 2 * S + 2 * P) : w < X := by
  have h5 : 2 * w + 3 * P < 2 * U := by
    rw [h1, h2, ← Nat.add_mul, ← Nat.mul_assoc]
    exact Nat.mul_lt_mul_of_pos_right (by decide) hP
  clear h1 h2
  omega
theorem balV {k j m : Nat} (hm : m < 961) (h0 : 0 < m) (e : m = k + j) : ¬ Op.cmpValue (FP.dcmp (FP.ddiv (FP.i2d (Int32.ofNat k)) (FP.i2d (Int32.ofNat m))) FP.dconst0) .l < 0 ∧ ¬ 0 < Op.cmpValue (FP.dcmp (FP.ddiv (FP.i2d (Int32.ofNat k)) (FP.i2d (Int32.ofNat m))) FP.dconst1) .g ∧ (∃ N e', FP.dadd (FP.ddiv (FP.i2d (Int32.ofNat k)) (FP.i2d (Int32.ofNat m))) (FP.ddiv (FP.i2d (Int32.ofNat j)) (FP.i2d (Int32.ofNat m))) = UInt64.ofNat (FP.Core.encode FP.Core.b64 (FP.Core.roundRatio FP.Core.b64 false N 1 e'))) ∧ ¬ Op.cmpValue (FP.dcmp (FP.dadd (FP.ddiv (FP.i2d (Int32.ofNat k)) (FP.i2d (Int32.ofNat m))) (FP.ddiv (FP.i2d (Int32.ofNat j)) (FP.i2d (Int32.ofNat m)))) 4607173411600762667) .l ≤ 0 ∧ ¬ 0 ≤ Op.cmpValue (FP.dcmp (FP.dadd (FP.ddiv (FP.i2d (Int32.ofNat k)) (FP.i2d (Int32.ofNat m))) (FP.ddiv (FP.i2d (Int32.ofNat j)) (FP.i2d (Int32.ofNat m)))) 4607186922399644778) .g := by
  obtain ⟨c, q, a1, a2, a3, a4, a5⟩ := quoV (k := k) (m := m) (by omega) h0 hm
  obtain ⟨d, r, b1, b2, b3, b4, b5⟩ := quoV (k := j) (m := m) (by omega) h0 hm
  generalize FP.ddiv (FP.i2d (Int32.ofNat k)) (FP.i2d (Int32.ofNat m)) = va at a1 ⊢
  generalize FP.ddiv (FP.i2d (Int32.ofNat j)) (FP.i2d (Int32.ofNat m)) = vb at b1 ⊢
  have hP := PP_pos
  have hU := UU_eq
  have ek : k * UU + j * UU = UU * m := by rw [← Nat.add_mul, ← e, Nat.mul_comm]
  have s1 : 2 * (XV c q + XV d r) ≤ 2 * UU + 2 * PP := by
    refine Nat.le_of_mul_le_mul_right ?_ h0
    rw [Nat.mul_assoc, Nat.add_mul, Nat.add_mul, Nat.mul_assoc 2, Nat.mul_assoc 2]
    omega
  have s2 : 2 * UU ≤ 2 * (XV c q + XV d r) + 2 * PP := by
    refine Nat.le_of_mul_le_mul_right ?_ h0
    rw [Nat.add_mul, Nat.mul_assoc, Nat.mul_assoc, Nat.mul_assoc, Nat.add_mul]
    omega
  obtain ⟨x, y, N, g1, g2, g3, g4, g5⟩ := sumV a1 b1 a2 b2 (by omega)
  have n1 : ¬ (1 : Int32) < 0 := by decide
  have n0 : ¬ (0 : Int32) < 0 := by decide
  refine ⟨?_, ?_, ⟨N, _, g1⟩, ?_, ?_⟩
  · show ¬ Op.cmpValue (FP.Core.order (FP.Core.decode FP.Core.b64 va.toNat) (FP.Core.decode FP.Core.b64 FP.dconst0.toNat)) .l < 0
    rw [a1, d0V, ordV (Int.le_trans (by decide) a2) (by decide), X0, if_neg (Nat.not_lt_zero _)]
    split <;> decide
  · show ¬ 0 < Op.cmpValue (FP.Core.order (FP.Core.decode FP.Core.b64 va.toNat) (FP.Core.decode FP.Core.b64 FP.dconst1.toNat)) .g
    rw [a1, d1V, ordV (Int.le_trans (by decide) a2) (by decide), X1]
    split
    · decide
    · rw [if_pos (by omega)]; decide
  · show ¬ Op.cmpValue (FP.Core.order (FP.Core.decode FP.Core.b64 (FP.dadd va vb).toNat) (FP.Core.decode FP.Core.b64 (4607173411600762667 : UInt64).toNat)) .l ≤ 0
    obtain ⟨w, e1, e2⟩ : ∃ w, XV 8998192055486251 (-53) = w ∧ 2 * w = 8998192055486251 * PP := ⟨_, rfl, Xlo⟩
    have hlt : w < XV x y := lo_lt hP e2 hU g5 s2
    rw [g2, loV, ordV (Int.le_trans (by decide) g3) (by decide), e1, if_neg (Nat.not_lt.mpr (Nat.le_of_lt hlt)), if_neg (Nat.ne_of_gt hlt)]
    decide
  · show ¬ 0 ≤ Op.cmpValue (FP.Core.order (FP.Core.decode FP.Core.b64 (FP.dadd va vb).toNat) (FP.Core.decode FP.Core.b64 (4607186922399644778 : UInt64).toNat)) .g
    obtain ⟨w, e1, e2⟩ : ∃ w, XV 4508103226997866 (-52) = w ∧ w = 4508103226997866 * PP := ⟨_, rfl, Xhi⟩
    have hlt : XV x y < w := by
      clear a3 a4 a5 b3 b4 b5 s2 ek g5 n1 n0
      omega
    rw [g2, hiV, ordV (Int.le_trans (by decide) g3) (by decide), e1, if_pos hlt]
    decide
theorem bal_cnt0 {α : Mem} {n : Nat} (H : Ok α n) (h : cntF (fun i => 0 < α (7 + i) 3) n 0 0 = 0) : sumF (totF α) n 0 0 = 0 := by
  have h8 := H.n8
  obtain ⟨m, m1, m2, m3⟩ := cnt_J (fun i => 0 < α (7 + i) 3) n 0 0
  have e : J m = 0 := by
    rw [Nat.zero_add] at m2
    exact m2.symm.trans h
  have m0 : m = 0 := by
    rw [i32_eq, J_ti (by omega), ti0] at e
    omega
  have hz := m3.mp m0
  have hs : ∀ k i (v : Int32), i + k = n → sumF (totF α) k i v = v := by
    intro k
    induction k with
    | zero => intro i v _; rfl
    | succ k ih =>
      intro i v hi
      have t0 : totF α i = 0 := by
        unfold totF
        exact if_neg (hz i (by omega) (by omega))
      rw [sumF, t0, ih (i + 1) _ (by omega), Int32.add_zero]
  exact hs n 0 0 (by omega)
theorem bal_ok {α : Mem} {n : Nat} (H : Ok α n) : ¬ Op.cmpValue (FP.dcmp (balC α n 0) FP.dconst0) .l < 0 ∧ ¬ 0 < Op.cmpValue (FP.dcmp (balC α n 0) FP.dconst1) .g ∧ vf_n64 (FP.dadd (balC α n 0) (balC α n 1)) ∧ ¬ Op.cmpValue (FP.dcmp (FP.dadd (balC α n 0) (balC α n 1)) 4607173411600762667) .l ≤ 0 ∧ ¬ 0 ≤ Op.cmpValue (FP.dcmp (FP.dadd (balC α n 0) (balC α n 1)) 4607186922399644778) .g ∧ (cntF (fun i => 0 < α (7 + i) 3) n 0 0 = 0 → Op.cmpValue (FP.dcmp (balC α n 0) 4602678819172646912) .l = 0) := by
  have h8 := H.n8
  by_cases q : sumF (totF α) n 0 0 = 0
  · unfold balC
    rw [if_pos q, if_pos q]
    refine ⟨by decide +kernel, by decide +kernel, ?_, by decide +kernel, by decide +kernel, fun _ => by decide +kernel⟩
    unfold vf_n64
    decide +kernel
  · have e := sum_add (totF α) (wgtC α 0) (wgtC α (1 - 0)) (tot_eq H (Or.inl rfl)) n 0 0 0 (by omega)
    rw [Int32.add_zero, show (1 : Int32) - 0 = 1 by decide] at e
    have b1 := sum_bd (totF α) (tot_bd H) n 0 0 (by omega) h8 (by decide) (by decide)
    have b2 := sum_bd (wgtC α 0) (wgt_bd H 0) n 0 0 (by omega) h8 (by decide) (by decide)
    have b3 := sum_bd (wgtC α 1) (wgt_bd H 1) n 0 0 (by omega) h8 (by decide) (by decide)
    obtain ⟨m, hm, em⟩ := J_rng (v := sumF (totF α) n 0 0) (k := 961) (by omega) (by omega)
    obtain ⟨k, hk, ek⟩ := J_rng (v := sumF (wgtC α 0) n 0 0) (k := 961) (by omega) (by omega)
    obtain ⟨j, hj, ej⟩ := J_rng (v := sumF (wgtC α 1) n 0 0) (k := 961) (by omega) (by omega)
    have hm0 : 0 < m := by
      refine Nat.pos_of_ne_zero fun w => q ?_
      rw [em, w]
      rfl
    have hs : m = k + j := by
      rw [em, ek, ej, J_add] at e
      rw [i32_eq, J_ti (by omega), J_ti (by omega)] at e
      omega
    obtain ⟨v1, v2, ⟨N, e', v3⟩, v4, v5⟩ := balV (k := k) (j := j) (m := m) hm hm0 hs
    unfold balC
    rw [if_neg q, if_neg q, em, ek, ej]
    refine ⟨v1, v2, ?_, v4, v5, fun h => absurd (bal_cnt0 H h) q⟩
    show vf_n64 (FP.dadd (FP.ddiv (FP.i2d (Int32.ofNat k)) (FP.i2d (Int32.ofNat m))) (FP.ddiv (FP.i2d (Int32.ofNat j)) (FP.i2d (Int32.ofNat m))))
    rw [v3]
    exact n64_of (enc_ratio _ _ _ _)
