/-- the class' slot of an offset of the model -/
def slM (k : Nat) : Nat := if k = 8 then 9 else if k = 9 then 10 else if k = 10 then 11 else if k = 11 then 12 else if k = 12 then 8 else if k = 13 then 14 else if k = 14 then 13 else k
theorem J_idx (i k : Nat) : 6 + 15 * J i + J k = J (6 + 15 * i + k) := by
  show Int32.ofNat 6 + Int32.ofNat 15 * Int32.ofNat i + Int32.ofNat k = _
  rw [← Int32.ofNat_mul, ← Int32.ofNat_add, ← Int32.ofNat_add]
section S37
variable {z : Zr} {α β γ : Mem} {π : Nat → Nat} {η : Int64} {o : Nat → Int64} {od : Nat → UInt64} {n k : Nat}
theorem s32 (hp : seas π) (hk : α 15 1 = J (k + 1)) (h4 : k < 4) (hn : α (π k) 5 = J n) (h8 : n ≤ 8) (hb13 : ∀ i, i < n → α (π k + 3 + i) 13 = 0 ∨ α (π k + 3 + i) 13 = 1) (hb14 : ∀ i, i < n → α (π k + 3 + i) 14 = 0 ∨ α (π k + 3 + i) 14 = 1) : Run 32 0 [some (.ref (15)), some (.ref (4))] [] (HC z α π β η o od) = some (.inl none, (HC z (seaW (up2 α 15 1 (J k)) 4 (π k) n) π β η o od)) := by
  have s4 : isSea 4 := Or.inl rfl
  have hs := hp k h4
  have hlt : π k < 15 ∨ 15 < π k := by have := hs.1; unfold isSea at this; omega
  have hne : π k ≠ 15 := by omega
  have hs3 : ∀ i, i < n → π k + 3 + i ≠ 15 := fun i hi => by have := hs.1; have := hs.2; unfold isSea at *; omega
  have e1 : J (k + 1) - 1 = J k := by rw [← J_succ, Int32.add_sub_cancel]
  have e : Run 42 0 [some (.ref (4)), some (.ref (π k)), none] [] (HC z (up2 α 15 1 (J k)) π β η o od) = _ := s42 (n := n) s4 hs.1 (fun q => hs.2 q.symm) (by rw [up2_ne _ hne]; exact hn) h8 (fun i hi => by rw [up2_ne _ (hs3 i hi)]; exact hb13 i hi) (fun i hi => by rw [up2_ne _ (hs3 i hi)]; exact hb14 i hi)
  simp only [↓reduceIte, e32_0, e32_1, e32_4, e32_7, e32_8, e32_11, e32_12, e32_15, e32_16, e32_17, e32_20, e32_21, e32_22, e32_25, e32_26, e32_27, e32_30, e32_31, e32_34, e32_35, e32_38, gf4_0 kd15, gf4_1 kd15, hk, J0, (show (4 : Int32) = J 4 from rfl), J_le (show k + 1 < 2147483648 by omega) (show 0 < 2147483648 by omega), J_lt (show 4 < 2147483648 by omega) (show k + 1 < 2147483648 by omega), show ¬ k + 1 ≤ 0 by omega, show ¬ 4 < k + 1 by omega, e1, pf4_1 kd15, up2_rr, gaR22 kd16 (inB_J h4 (by omega)), J_tn (show k < 2147483648 by omega), isO4, e, aft_v, aft_n, Option.bind_some, rf_some, ck_i, ck_r, ck_n, nb0, nb1, nbi, Nat.reduceAdd, if_true, if_false, not_false_eq_true, not_true_eq_false]
theorem bi_c {p q : Prop} [Decidable p] [Decidable q] (h : p ↔ q) : bi p = bi q := by unfold bi; by_cases w : q; rw [if_pos w, if_pos (h.mpr w)]; rw [if_neg w, if_neg (fun x => w (h.mp x))]
end S37
