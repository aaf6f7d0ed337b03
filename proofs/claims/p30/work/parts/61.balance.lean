/-! the strength of a side: a quotient of two small ints is a number -/
theorem n64_of {N : Nat} (h : N % 9223372036854775808 ≤ 9218868437227405312) : vf_n64 (UInt64.ofNat N) := by
  unfold vf_n64
  rw [UInt64.le_iff_toNat_le, UInt64.toNat_and]
  have e1 : (UInt64.ofNat N).toNat = N % 18446744073709551616 := UInt64.toNat_ofNat'
  have e2 : (0x7fffffffffffffff : UInt64).toNat = 2 ^ 63 - 1 := by decide
  have e3 : (0x7ff0000000000000 : UInt64).toNat = 9218868437227405312 := by decide
  rw [e1, e2, e3, Nat.and_two_pow_sub_one_eq_mod]
  have e4 : N % 18446744073709551616 % 2 ^ 63 = N % 9223372036854775808 := by
    rw [show (2 : Nat) ^ 63 = 9223372036854775808 by decide]; omega
  rw [e4]
  exact h
theorem enc_fin (s : Bool) {c : Nat} {q : Int} (hc : c < 9007199254740992) (hq : c < 4503599627370496 ∨ q ≤ 971) : FP.Core.encode FP.Core.b64 (.fin s c q) % 9223372036854775808 ≤ 9218868437227405312 := by
  have t1 : FP.Core.b64.tails = 4503599627370496 := by decide
  have t2 : FP.Core.b64.exps = 2048 := by decide
  have t3 : FP.Core.b64.qmin = -1074 := by decide
  have hs : s.toNat ≤ 1 := by cases s <;> decide
  unfold FP.Core.encode FP.Core.assemble
  simp only [t1, t2, t3]
  by_cases h : c < 4503599627370496
  · rw [if_pos h]
    omega
  · rw [if_neg h]
    have hq' := hq.resolve_left h
    have he : (q - -1074).toNat + 1 ≤ 2046 := by omega
    generalize (q - -1074).toNat + 1 = e at he
    omega
theorem enc_inf (s : Bool) : FP.Core.encode FP.Core.b64 (.inf s) % 9223372036854775808 ≤ 9218868437227405312 := by
  cases s <;> decide
theorem enc_bound (s : Bool) {c : Nat} (q : Int) (hc : c < 9007199254740992) : FP.Core.encode FP.Core.b64 (FP.Core.bound FP.Core.b64 s c q) % 9223372036854775808 ≤ 9218868437227405312 := by
  have t4 : FP.Core.b64.qmax = 971 := by decide
  unfold FP.Core.bound
  rw [t4]
  by_cases h : q ≤ 971
  · rw [if_pos h]; exact enc_fin s hc (Or.inr h)
  · rw [if_neg h]; exact enc_inf s
theorem enc_ratio (s : Bool) (a b : Nat) (e : Int) : FP.Core.encode FP.Core.b64 (FP.Core.roundRatio FP.Core.b64 s a b e) % 9223372036854775808 ≤ 9218868437227405312 := by
  have t1 : FP.Core.b64.tails = 4503599627370496 := by decide
  have t5 : (2 : Nat) ^ FP.Core.b64.p = 9007199254740992 := by decide
  unfold FP.Core.roundRatio
  by_cases h : a = 0
  · rw [if_pos h]; exact enc_fin s (by omega) (Or.inl (by omega))
  · rw [if_neg h]
    unfold FP.Core.roundAt FP.Core.settle
    rw [t5, t1]
    split
    · next w => exact enc_bound s _ w
    · exact enc_bound s _ (by omega)
def finB (d : FP.Core.Datum) : Option Nat := match d with
  | .fin _ c _ => some c
  | _ => none
theorem i2d_tab : ∀ k, k < 961 → (match finB (FP.Core.decode FP.Core.b64 (FP.i2d (Int32.ofNat k)).toNat) with | some c => decide (c = 0) == decide (k = 0) | none => false) = true := by decide +kernel
theorem i2d_fin {k : Nat} (h : k < 961) : ∃ s c q, FP.Core.decode FP.Core.b64 (FP.i2d (J k)).toNat = .fin s c q ∧ (c = 0 ↔ k = 0) := by
  have t := i2d_tab k h
  cases hd : FP.Core.decode FP.Core.b64 (FP.i2d (Int32.ofNat k)).toNat with
  | nan => rw [hd] at t; exact absurd t (by simp [finB])
  | inf s => rw [hd] at t; exact absurd t (by simp [finB])
  | fin s c q =>
    rw [hd] at t
    refine ⟨s, c, q, rfl, ?_⟩
    simp only [finB, beq_iff_eq, decide_eq_decide] at t
    exact t
theorem div_ok {a b : Nat} (ha : a < 961) (hb : b < 961) (h0 : b ≠ 0) : vf_n64 (FP.ddiv (FP.i2d (J a)) (FP.i2d (J b))) := by
  obtain ⟨s, c, q, e1, -⟩ := i2d_fin ha
  obtain ⟨t, d, r, e2, e3⟩ := i2d_fin hb
  have hd : ¬ d = 0 := fun w => h0 (e3.mp w)
  show vf_n64 (UInt64.ofNat (FP.Core.encode FP.Core.b64 (FP.Core.quotient FP.Core.b64 (FP.Core.decode FP.Core.b64 (FP.i2d (J a)).toNat) (FP.Core.decode FP.Core.b64 (FP.i2d (J b)).toNat))))
  apply n64_of
  rw [e1, e2]
  unfold FP.Core.quotient
  simp only [hd, if_false]
  exact enc_ratio _ _ _ _
theorem sum_bd (f : Nat → Int32) {n : Nat} (hf : ∀ i, i < n → 0 ≤ (f i).toInt ∧ (f i).toInt ≤ 120) : ∀ (k i : Nat) (v : Int32), i + k = n → n ≤ 8 → 0 ≤ v.toInt → v.toInt ≤ 120 * (i : Int) → 0 ≤ (sumF f k i v).toInt ∧ (sumF f k i v).toInt ≤ 120 * (n : Int) ∧ v.toInt ≤ (sumF f k i v).toInt := by
  intro k
  induction k with
  | zero => intro i v hi _ h0 h1; rw [sumF]; exact ⟨h0, by omega, by omega⟩
  | succ k ih =>
    intro i v hi h8 h0 h1
    have h := hf i (by omega)
    have e := add_ti (x := v) (y := f i) (by omega) (by omega)
    rw [sumF]
    have := ih (i + 1) (v + f i) (by omega) h8 (by omega) (by omega)
    omega
theorem sum_add (f g h : Nat → Int32) {n : Nat} (hf : ∀ i, i < n → f i = g i + h i) : ∀ k i a b, i + k = n → sumF f k i (a + b) = sumF g k i a + sumF h k i b := by
  intro k
  induction k with
  | zero => intro i a b _; rfl
  | succ k ih =>
    intro i a b hi
    rw [sumF, sumF, sumF, hf i (by omega), ← ih _ _ _ (by omega)]
    congr 1
    rw [Int32.add_assoc, ← Int32.add_assoc b, Int32.add_comm b, Int32.add_assoc (g i), ← Int32.add_assoc a]
def totF (α : Mem) (i : Nat) : Int32 := if 0 < α (7 + i) 3 then α (7 + i) 3 + α (7 + i) 7 else 0
theorem tot_eq {α : Mem} {n : Nat} (H : Ok α n) {s : Int32} (hs : s = 0 ∨ s = 1) : ∀ i, i < n → totF α i = wgtC α s i + wgtC α (1 - s) i := by
  intro i hi
  unfold totF wgtC
  have h10 : (1 : Int32) - 0 = 1 := by decide
  have h11 : (1 : Int32) - 1 = 0 := by decide
  have z0 : ∀ x : Int32, 0 + x = x := Int32.zero_add
  by_cases q : 0 < α (7 + i) 3
  · rcases hs with rfl | rfl <;> rcases H.side i hi with w | w <;> simp only [q, w, h10, h11, and_true, and_false, true_and, false_and, if_true, if_false, z0, Int32.add_zero, show ((0 : Int32) = 1) = False from eq_false (by decide), show ((1 : Int32) = 0) = False from eq_false (by decide)]
  · simp only [q, false_and, if_false, z0]
theorem tot_bd {α : Mem} {n : Nat} (H : Ok α n) : ∀ i, i < n → 0 ≤ (totF α i).toInt ∧ (totF α i).toInt ≤ 120 := by
  intro i hi
  have h1 := H.hull i hi; have h2 := H.crew i hi
  unfold totF
  split
  · rw [add_ti (by omega) (by omega)]; omega
  · decide
theorem wgt_bd {α : Mem} {n : Nat} (H : Ok α n) (s : Int32) : ∀ i, i < n → 0 ≤ (wgtC α s i).toInt ∧ (wgtC α s i).toInt ≤ 120 := by
  intro i hi
  have h1 := H.hull i hi; have h2 := H.crew i hi
  unfold wgtC
  split
  · rw [add_ti (by omega) (by omega)]; omega
  · decide
def balC (α : Mem) (n : Nat) (s : Int32) : UInt64 := if sumF (totF α) n 0 0 = 0 then 4602678819172646912 else FP.ddiv (FP.i2d (sumF (wgtC α s) n 0 0)) (FP.i2d (sumF (totF α) n 0 0))
section S61
variable {z : Zr} {α β γ : Mem} {π : Nat → Nat} {η : Int64} {o : Nat → Int64} {od : Nat → UInt64} {n l k : Nat}
theorem s104 (H : Ok α n) {s : Int32} (hs : sideC s) : Run 104 0 [some (.ref (3)), some (.int (s)), none, none] [] (HC z α π β η o od) = some (.inl (some (.double (balC α n s))), (HC z α π β η o od)) := by
  have h8 := H.n8
  have e := sum_add (totF α) (wgtC α s) (wgtC α (1 - s)) (tot_eq H hs) n 0 0 0 (by omega)
  rw [Int32.add_zero] at e
  have b1 := sum_bd (totF α) (tot_bd H) n 0 0 (by omega) h8 (by decide) (by decide)
  have b2 := sum_bd (wgtC α s) (wgt_bd H s) n 0 0 (by omega) h8 (by decide) (by decide)
  unfold balC
  by_cases q : sumF (totF α) n 0 0 = 0
  · have q' : ¬ 0 < sumF (totF α) n 0 0 := by rw [q]; decide
    rw [if_pos q]
    simp only [↓reduceIte, e104_0, e104_1, e104_4, e104_7, e104_17, e104_18, e104_21, e104_22, e104_25, e104_26, e104_27, e104_28, e104_31, e104_32, e104_33, e104_34, e104_37, e104_38, e104_39, e104_40, e104_43, e104_44, e104_45, e104_46, e104_47, e104_48, e104_51, e104_54, s112, bi_t hs, i1_0, gf8_0 kd3, isO4, s65 H, ← e, q', le_not, aft_v, aft_n, Option.bind_some, rf_some, ck_i, ck_r, ck_n, nb0, nb1, nbi, Nat.reduceAdd, if_true, if_false, not_false_eq_true, not_true_eq_false]
  · have q' : 0 < sumF (totF α) n 0 0 := by rw [i32_eq, ti0] at q; rw [i32_lt, ti0]; omega
    rw [if_neg q]
    obtain ⟨a, ha, ea⟩ := J_rng (v := sumF (wgtC α s) n 0 0) (k := 961) (by omega) (by omega)
    obtain ⟨b, hb, eb⟩ := J_rng (v := sumF (totF α) n 0 0) (k := 961) (by omega) (by omega)
    have hd := div_ok ha hb (fun w => by rw [w] at eb; exact q eb)
    rw [← ea, ← eb] at hd
    simp only [↓reduceIte, e104_0, e104_1, e104_4, e104_7, e104_17, e104_18, e104_21, e104_22, e104_25, e104_26, e104_27, e104_28, e104_31, e104_32, e104_33, e104_34, e104_37, e104_38, e104_39, e104_40, e104_43, e104_44, e104_45, e104_46, e104_48, e104_51, e104_54, e104_47 hd, s112, bi_t hs, i1_0, gf8_0 kd3, isO4, s65 H, ← e, q', le_not, aft_v, aft_n, Option.bind_some, rf_some, ck_i, ck_r, ck_n, nb0, nb1, nbi, Nat.reduceAdd, if_true, if_false, not_false_eq_true, not_true_eq_false]
theorem s104n {s : Int32} (hs : ¬ sideC s) : Run 104 0 [some (.ref (3)), some (.int (s)), none, none] [] (HC z α π β η o od) = some (.inr "java/lang/IllegalArgumentException", HC (zb z) α π β η o od) := by
  simp only [↓reduceIte, e104_0, e104_1, e104_4, e104_7, e104_17, e104_18, e104_21, e104_22, e104_25, e104_26, e104_27, e104_28, e104_31, e104_32, e104_33, e104_34, e104_37, e104_38, e104_39, e104_40, e104_43, e104_44, e104_45, e104_46, e104_48, e104_51, e104_54, s112, bi_f hs, hb_HC, aft_v, aft_n, Option.bind_some, rf_some, ck_i, ck_r, ck_n, nb0, nb1, nbi, Nat.reduceAdd, if_true, if_false, not_false_eq_true, not_true_eq_false]
end S61
section S61m
variable {z : Zr} {α β γ : Mem} {π : Nat → Nat} {η : Int64} {o : Nat → Int64} {od : Nat → UInt64} {n l k : Nat}
end S61m
