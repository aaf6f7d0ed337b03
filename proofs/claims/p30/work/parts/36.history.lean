/-! the history: saving and restoring -/
theorem kd15 : kd 15 = 4 := by decide
theorem kd16 : kd 16 = 22 := by decide
def rotN (π : Nat → Nat) : Nat → Nat := fun j => if j = 0 then π 1 else if j = 1 then π 2 else if j = 2 then π 3 else if j = 3 then π 0 else π j
def seas (π : Nat → Nat) : Prop := ∀ j, j < 4 → isSea (π j) ∧ π j ≠ 4
theorem seas_rot {π : Nat → Nat} (h : seas π) : seas (rotN π) := by
  intro j hj
  have : j = 0 ∨ j = 1 ∨ j = 2 ∨ j = 3 := by omega
  rcases this with rfl | rfl | rfl | rfl
  · exact h 1 (by omega)
  · exact h 2 (by omega)
  · exact h 3 (by omega)
  · exact h 0 (by omega)
def saveP (π : Nat → Nat) (k : Nat) : Nat → Nat := if k = 4 then rotN π else π
def saveK (k : Nat) : Nat := if k = 4 then 3 else k
def saveA (α : Mem) (k : Nat) : Mem := if k = 4 then up2 α 15 1 3 else α
def saveC (α : Mem) (π : Nat → Nat) (n k : Nat) : Mem := up2 (seaW (saveA α k) (saveP π k (saveK k)) 4 n) 15 1 (J (saveK k + 1))
theorem b1_1 : ((1 : Int32) - 1) = 0 := by decide
theorem b2_1 : ((2 : Int32) - 1) = 1 := by decide
theorem b3_1 : ((3 : Int32) - 1) = 2 := by decide
theorem a2_1 : ((2 : Int32) + 1) = 3 := by decide
theorem a3_1 : ((3 : Int32) + 1) = 4 := by decide
theorem c4_1 : ((4 : Int32) ≤ 1) = False := eq_false (by decide)
theorem c4_2 : ((4 : Int32) ≤ 2) = False := eq_false (by decide)
theorem c4_3 : ((4 : Int32) ≤ 3) = False := eq_false (by decide)
theorem c4_4 : ((4 : Int32) ≤ 4) = True := eq_true (by decide)
section S36
variable {z : Zr} {α β γ : Mem} {π : Nat → Nat} {η : Int64} {o : Nat → Int64} {od : Nat → UInt64} {n k : Nat}
theorem isO15 : isO (HC z α π β η o od) 15 4 = true := isO_HC kd15 (by decide)
theorem s31 (hp : seas π) : Run 31 0 [some (.ref (15)), none, none] [] (HC z α π β η o od) = some (.inl none, (HC z (up2 α 15 1 3) (rotN π) β η o od)) := by
  have k0 := (sea_kd (hp 0 (by omega)).1).1
  have k1 := (sea_kd (hp 1 (by omega)).1).1
  have k2 := (sea_kd (hp 2 (by omega)).1).1
  have k3 := (sea_kd (hp 3 (by omega)).1).1
  have i0 : inB 0 4 = true := by decide
  have i1 : inB 1 4 = true := by decide
  have i2 : inB 2 4 = true := by decide
  have i3 : inB 3 4 = true := by decide
  have e : rotN π = fun j => if j = 3 then π 0 else if j = 2 then π 3 else if j = 1 then π 2 else if j = 0 then π 1 else π j := by
    funext j
    unfold rotN
    by_cases q0 : j = 0
    · subst q0; rfl
    by_cases q1 : j = 1
    · subst q1; rfl
    by_cases q2 : j = 2
    · subst q2; rfl
    by_cases q3 : j = 3
    · subst q3; rfl
    simp only [q0, q1, q2, q3, if_false]
  rw [e]
  simp only [↓reduceIte, e31_0, e31_1, e31_4, e31_5, e31_6, e31_7, e31_8, e31_9, e31_10, e31_11, e31_14, e31_15, e31_18, e31_19, e31_20, e31_21, e31_22, e31_25, e31_26, e31_27, e31_28, e31_31, e31_34, e31_35, e31_38, e31_39, e31_40, e31_41, e31_42, e31_43, e31_46, gf4_0 kd15, gaR22 kd16 i0, gaR22 kd16 i1, gaR22 kd16 i2, gaR22 kd16 i3, paR22 kd16 i0 k1, paR22 kd16 i1 k2, paR22 kd16 i2 k3, paR22 kd16 i3 k0, tn0, tn1, tn2, tn3, show ((2 : Nat) = 0) = False from eq_false (by decide), show ((2 : Nat) = 1) = False from eq_false (by decide), show ((3 : Nat) = 0) = False from eq_false (by decide), show ((3 : Nat) = 1) = False from eq_false (by decide), show ((3 : Nat) = 2) = False from eq_false (by decide), show ((1 : Nat) = 0) = False from eq_false (by decide), b1_1, b2_1, b3_1, i11, a2_1, a3_1, c4_1, c4_2, c4_3, c4_4, pf4_1 kd15, aft_v, aft_n, Option.bind_some, rf_some, ck_i, ck_r, ck_n, nb0, nb1, nbi, Nat.reduceAdd, if_true, if_false, not_false_eq_true, not_true_eq_false]
theorem s30 (H : Ok α n) (hp : seas π) (hk : α 15 1 = J k) (h4 : k ≤ 4) : Run 30 0 [some (.ref (15)), some (.ref (4))] [] (HC z α π β η o od) = some (.inl none, (HC z (saveC α π n k) (saveP π k) β η o od)) := by
  have h8 := H.n8
  have s4 : isSea 4 := Or.inl rfl
  unfold saveC saveP saveK saveA
  by_cases q : k = 4
  · subst q
    have hp' := seas_rot hp
    have i3 : inB 3 4 = true := by decide
    have H' : ∀ j m, up2 α 15 1 3 (4 + j) m = α (4 + j) m ∨ 4 + j = 15 := fun j m => by
      by_cases w : 4 + j = 15
      · exact Or.inr w
      · left; rw [up2_ne _ w]
    have e : Run 42 0 [some (.ref (rotN π 3)), some (.ref (4)), none] [] (HC z (up2 α 15 1 3) (rotN π) β η o od) = _ := s42 (n := n) (hp' 3 (by omega)).1 s4 (hp' 3 (by omega)).2 (by rw [up2_ne _ (by decide)]; exact H.hn) h8 (fun i hi => by rw [up2_ne _ (show 4 + 3 + i ≠ 15 by omega), show 4 + 3 + i = 7 + i by omega]; exact H.bo i hi) (fun i hi => by rw [up2_ne _ (show 4 + 3 + i ≠ 15 by omega), show 4 + 3 + i = 7 + i by omega]; exact H.way i hi)
    have g15 : seaW (up2 α 15 1 3) (rotN π 3) 4 n 15 = up2 α 15 1 3 15 := seaW_o _ h8 (by have := (hp' 3 (by omega)).1; have := (hp' 3 (by omega)).2; unfold isSea at *; omega)
    simp only [↓reduceIte, e30_0, e30_1, e30_4, e30_5, e30_8, e30_9, e30_12, e30_13, e30_16, e30_17, e30_20, e30_21, e30_22, e30_25, e30_26, e30_27, e30_30, e30_31, e30_32, e30_35, isO15, gf4_0 kd15, gf4_1 kd15, hk, show ((4 : Int32) ≤ J 4) = True from eq_true (by decide), show (J 4 < (4 : Int32)) = False from eq_false (by decide), s31 hp, up2_rr, gaR22 kd16 i3, tn3, isO_HC (sea_kd (hp' 3 (by omega)).1).1 (show 6 ≤ 9 by decide), e, g15, pf4_1 kd15, a3_1, aft_v, aft_n, Option.bind_some, rf_some, ck_i, ck_r, ck_n, nb0, nb1, nbi, Nat.reduceAdd, if_true, if_false, not_false_eq_true, not_true_eq_false]
    rfl
  · have hk3 : k < 4 := by omega
    have i3 : inB (J k) 4 = true := inB_J hk3 (by omega)
    have e : Run 42 0 [some (.ref (π k)), some (.ref (4)), none] [] (HC z α π β η o od) = _ := s42 (n := n) (hp k hk3).1 s4 (hp k hk3).2 H.hn h8 (fun i hi => by rw [show 4 + 3 + i = 7 + i by omega]; exact H.bo i hi) (fun i hi => by rw [show 4 + 3 + i = 7 + i by omega]; exact H.way i hi)
    have g15 : seaW α (π k) 4 n 15 = α 15 := seaW_o _ h8 (by have := (hp k hk3).1; have := (hp k hk3).2; unfold isSea at *; omega)
    simp only [↓reduceIte, e30_0, e30_1, e30_4, e30_5, e30_8, e30_9, e30_12, e30_13, e30_16, e30_17, e30_20, e30_21, e30_22, e30_25, e30_26, e30_27, e30_30, e30_31, e30_32, e30_35, isO15, gf4_0 kd15, gf4_1 kd15, hk, (show (4 : Int32) = J 4 from rfl), J_lt (show k < 2147483648 by omega) (show 4 < 2147483648 by omega), hk3, q, gaR22 kd16 i3, J_tn (show k < 2147483648 by omega), isO_HC (sea_kd (hp k hk3).1).1 (show 6 ≤ 9 by decide), e, g15, pf4_1 kd15, J_succ, aft_v, aft_n, Option.bind_some, rf_some, ck_i, ck_r, ck_n, nb0, nb1, nbi, Nat.reduceAdd, if_true, if_false, not_false_eq_true, not_true_eq_false]
end S36
