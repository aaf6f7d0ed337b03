/-! a sea copied; the saved states -/
def isSea (B : Nat) : Prop := B = 4 ∨ B = 17 ∨ B = 28 ∨ B = 39 ∨ B = 50
theorem sea_kd {B : Nat} (h : isSea B) : kd B = 6 ∧ kd (B + 1) = 40 ∧ aln (B + 1) = 144 ∧ kd (B + 2) = 21 ∧ ∀ i, i < 8 → kd (B + 3 + i) = 7 := by
  rcases h with rfl | rfl | rfl | rfl | rfl <;> decide
theorem sea_ap {B C : Nat} (hB : isSea B) (hC : isSea C) (h : B ≠ C) : B + 10 < C ∨ C + 10 < B := by
  unfold isSea at hB hC; omega
def seaW (α : Mem) (B C n : Nat) : Mem := fun j => if j = B then (fun k => if k < 6 then α C k else α B k) else if j = B + 1 then (fun k => if k < 144 then α (C + 1) k else α (B + 1) k) else if B + 3 ≤ j ∧ j < B + 3 + n then cpF α j (C + (j - B)) else α j
theorem seaW_o (α : Mem) {B C n j : Nat} (h8 : n ≤ 8) (h : j < B ∨ B + 10 < j) : seaW α B C n j = α j := by
  unfold seaW; rw [if_neg (by omega), if_neg (by omega), if_neg (by omega)]
theorem seaW_h (α : Mem) (B C n : Nat) {k : Nat} (h : k < 6) : seaW α B C n B k = α C k := by
  unfold seaW; rw [if_pos rfl, if_pos h]
theorem seaW_r (α : Mem) (B C n : Nat) {k : Nat} (h : k < 144) : seaW α B C n (B + 1) k = α (C + 1) k := by
  unfold seaW; rw [if_neg (by omega), if_pos rfl, if_pos h]
theorem seaW_s (α : Mem) (B C n : Nat) {i k : Nat} (hi : i < n) (h : k < 15) : seaW α B C n (B + 3 + i) k = α (C + 3 + i) k := by
  unfold seaW cpF
  rw [if_neg (by omega), if_neg (by omega), if_pos ⟨by omega, by omega⟩, if_pos h, show C + (B + 3 + i - B) = C + 3 + i by omega]
theorem seaW_t (α : Mem) (B C : Nat) {i n : Nat} (hi : n ≤ i) : seaW α B C n (B + 3 + i) = α (B + 3 + i) := by
  unfold seaW
  rw [if_neg (by omega), if_neg (by omega), if_neg (by omega)]
theorem seaW_st (α : Mem) {B C i : Nat} (hi : i < 8) (hap : B + 10 < C ∨ C + 10 < B) : cpS (seaW α B C i) (B + 3 + i) (C + 3 + i) = seaW α B C (i + 1) := by
  unfold cpS
  funext j
  by_cases h : j = B + 3 + i
  · rw [h, upA_at]
    unfold cpF
    rw [seaW_t α B C (Nat.le_refl i), seaW_o α (by omega) (show C + 3 + i < B ∨ B + 10 < C + 3 + i by omega)]
    unfold seaW cpF
    rw [if_neg (by omega), if_neg (by omega), if_pos ⟨by omega, by omega⟩, show C + (B + 3 + i - B) = C + 3 + i by omega]
  · rw [upA_ne _ h]
    unfold seaW
    by_cases h1 : j = B
    · rw [if_pos h1, if_pos h1]
    · rw [if_neg h1, if_neg h1]
      by_cases h2 : j = B + 1
      · rw [if_pos h2, if_pos h2]
      · rw [if_neg h2, if_neg h2]
        by_cases h3 : B + 3 ≤ j ∧ j < B + 3 + i
        · rw [if_pos h3, if_pos (by omega)]
        · rw [if_neg h3, if_neg (by omega)]
theorem seaW_0 (α : Mem) {B C : Nat} (hap : B + 10 < C ∨ C + 10 < B) : upA (up2 (up2 (up2 (up2 (up2 (up2 α B 0 (α C 0)) B 1 (α C 1)) B 2 (α C 2)) B 3 (α C 3)) B 4 (α C 4)) B 5 (α C 5)) (B + 1) (fun k => if k < 144 then α (C + 1) k else α (B + 1) k) = seaW α B C 0 := by
  funext j
  unfold seaW
  by_cases h1 : j = B
  · rw [if_pos h1, upA_ne _ (by omega), h1]
    funext k
    simp only [up2_a]
    by_cases q : k < 6
    · rw [if_pos q]
      have : k = 0 ∨ k = 1 ∨ k = 2 ∨ k = 3 ∨ k = 4 ∨ k = 5 := by omega
      rcases this with rfl | rfl | rfl | rfl | rfl | rfl <;> rfl
    · rw [if_neg q]
      simp only [show ¬ k = 0 by omega, show ¬ k = 1 by omega, show ¬ k = 2 by omega, show ¬ k = 3 by omega, show ¬ k = 4 by omega, show ¬ k = 5 by omega, if_false]
  · rw [if_neg h1]
    by_cases h2 : j = B + 1
    · rw [if_pos h2, h2, upA_at]
    · rw [if_neg h2, upA_ne _ h2, if_neg (by omega)]
      simp only [up2_ne _ h1]
theorem tn0 : (0 : Int32).toNatClampNeg = 0 := rfl
theorem tn1 : (1 : Int32).toNatClampNeg = 1 := rfl
theorem tn2 : (2 : Int32).toNatClampNeg = 2 := rfl
theorem tn3 : (3 : Int32).toNatClampNeg = 3 := rfl
theorem tn144 : (144 : Int32).toNatClampNeg = 144 := rfl
section S35
variable {z : Zr} {α β γ : Mem} {π : Nat → Nat} {η : Int64} {o : Nat → Int64} {od : Nat → UInt64} {n : Nat}
theorem cpI_HC {a b : Nat} (ha : kd a = 40) (hb : kd b = 40) (la : aln a = 144) (lb : aln b = 144) : cpI (HC z α π β η o od) a 0 b 0 144 = some (HC z (upA α b (fun k => if k < 144 then α a k else α b k)) π β η o od) := by
  have h3 := kd_ge3 ha (by decide)
  have h4 := kd_ge3 hb (by decide)
  have e1 : ((HC z α π β η o od)).2.2.2 a = .inl (0, 144, .inl (α a)) := by show cellr z π η o od a (α a) (β a) = _; unfold cellr; rw [ha]; show Sum.inl (0, aln a, _) = _; rw [la]
  have e2 : ((HC z α π β η o od)).2.2.2 b = .inl (0, 144, .inl (α b)) := by show cellr z π η o od b (α b) (β b) = _; unfold cellr; rw [hb]; show Sum.inl (0, aln b, _) = _; rw [lb]
  unfold cpI
  rw [e1, e2]
  dsimp only
  rw [if_pos ⟨⟨rfl, rfl, h3, h4⟩, ⟨by decide, by decide, by decide⟩, by decide, by decide⟩]
  have e3 : (va_cpy (α a) (α b) (0 : Int32).toNatClampNeg (0 : Int32).toNatClampNeg (144 : Int32).toNatClampNeg) = (fun k => if k < 144 then α a k else α b k) := by
    funext k
    unfold va_cpy
    rw [tn0, tn144]
    by_cases q : k < 144
    · rw [if_pos q, if_pos ⟨by omega, by omega⟩, show 0 + (k - 0) = k by omega]
    · rw [if_neg q, if_neg (by omega)]
  rw [e3, hset_α (fun k => if k < 144 then α a k else α b k)]
  unfold cellr
  rw [hb]
  show _ = Sum.inl (0, aln b, _)
  rw [lb]
theorem s42_l {B C : Nat} (hB : isSea B) (hC : isSea C) (hne : B ≠ C) (hn : α C 5 = J n) (h8 : n ≤ 8) (hb13 : ∀ i, i < n → α (C + 3 + i) 13 = 0 ∨ α (C + 3 + i) 13 = 1) (hb14 : ∀ i, i < n → α (C + 3 + i) 14 = 0 ∨ α (C + 3 + i) 14 = 1) : ∀ k i, i + k = n → Run 42 66 [some (.ref (B)), some (.ref (C)), some (.int (J i))] [] (HC z (seaW α B C i) π β η o od) = some (.inl none, (HC z (seaW α B C n) π β η o od)) := by
  obtain ⟨b1, b2, b3, b4, b5⟩ := sea_kd hB
  obtain ⟨c1, c2, c3, c4, c5⟩ := sea_kd hC
  have hap := sea_ap hB hC hne
  intro k
  induction k with
  | zero =>
    intro i hi
    have : i = n := by omega
    subst this
    simp only [↓reduceIte, e42_0, e42_1, e42_2, e42_5, e42_8, e42_9, e42_10, e42_13, e42_16, e42_17, e42_18, e42_21, e42_24, e42_25, e42_26, e42_29, e42_32, e42_33, e42_34, e42_37, e42_40, e42_41, e42_42, e42_45, e42_48, e42_49, e42_52, e42_53, e42_54, e42_57, e42_58, e42_61, e42_64, e42_65, e42_66, e42_67, e42_68, e42_71, e42_74, e42_75, e42_77, e42_80, e42_81, e42_84, e42_85, e42_86, e42_87, e42_90, e42_91, e42_92, e42_95, e42_98, e42_101, gf6_5 b1, seaW_h α B C i (show 5 < 6 by decide), hn, Int32.le_refl, aft_v, aft_n, Option.bind_some, rf_some, ck_i, ck_r, ck_n, nb0, nb1, nbi, Nat.reduceAdd, if_true, if_false, not_false_eq_true, not_true_eq_false]
  | succ k ih =>
    intro i hi
    rw [e42_66]
    have g1 : gaR (HC z (seaW α B C i) π β η o od) (B + 2) (J i) = some (some (B + 3 + i)) := by
      rw [gaR21 b4 (inB_J (show i < 8 by omega) (by omega)), J_tn (by omega)]
    have g2 : gaR (HC z (seaW α B C i) π β η o od) (C + 2) (J i) = some (some (C + 3 + i)) := by
      rw [gaR21 c4 (inB_J (show i < 8 by omega) (by omega)), J_tn (by omega)]
    have ho : seaW α B C i (C + 3 + i) = α (C + 3 + i) := seaW_o α (by omega) (by omega)
    have e : Run 72 0 [some (.ref (B + 3 + i)), some (.ref (C + 3 + i))] [] (HC z (seaW α B C i) π β η o od) = _ := s72 (b5 i (by omega)) (c5 i (by omega)) (by omega) (by rw [ho]; exact hb13 i (by omega)) (by rw [ho]; exact hb14 i (by omega))
    rw [seaW_st α (by omega) hap] at e
    simp only [↓reduceIte, e42_0, e42_1, e42_2, e42_5, e42_8, e42_9, e42_10, e42_13, e42_16, e42_17, e42_18, e42_21, e42_24, e42_25, e42_26, e42_29, e42_32, e42_33, e42_34, e42_37, e42_40, e42_41, e42_42, e42_45, e42_48, e42_49, e42_52, e42_53, e42_54, e42_57, e42_58, e42_61, e42_64, e42_65, e42_67, e42_68, e42_71, e42_74, e42_75, e42_77, e42_80, e42_81, e42_84, e42_85, e42_86, e42_87, e42_90, e42_91, e42_92, e42_95, e42_98, e42_101, gf6_5 b1, gf6_7 b1, gf6_7 c1, seaW_h α B C i (show 5 < 6 by decide), hn, J_le (show n < 2147483648 by omega) (show i < 2147483648 by omega), show ¬ n ≤ i by omega, (show (8 : Int32) = J 8 from rfl), J_le (show 8 < 2147483648 by omega) (show i < 2147483648 by omega), show ¬ 8 ≤ i by omega, g1, g2, isO_HC (b5 i (by omega)) (show 7 ≤ 9 by omega), e, J_succ, ih (i + 1) (by omega), aft_v, aft_n, Option.bind_some, rf_some, ck_i, ck_r, ck_n, nb0, nb1, nbi, Nat.reduceAdd, if_true, if_false, not_false_eq_true, not_true_eq_false]
theorem s42 {B C : Nat} (hB : isSea B) (hC : isSea C) (hne : B ≠ C) (hn : α C 5 = J n) (h8 : n ≤ 8) (hb13 : ∀ i, i < n → α (C + 3 + i) 13 = 0 ∨ α (C + 3 + i) 13 = 1) (hb14 : ∀ i, i < n → α (C + 3 + i) 14 = 0 ∨ α (C + 3 + i) 14 = 1) : Run 42 0 [some (.ref (B)), some (.ref (C)), none] [] (HC z α π β η o od) = some (.inl none, (HC z (seaW α B C n) π β η o od)) := by
  obtain ⟨b1, b2, b3, b4, b5⟩ := sea_kd hB
  obtain ⟨c1, c2, c3, c4, c5⟩ := sea_kd hC
  have hap := sea_ap hB hC hne
  have hne' : C ≠ B := fun q => hne q.symm
  have e := s42_l (z := z) (β := β) (π := π) (η := η) (o := o) (od := od) hB hC hne hn h8 hb13 hb14 n 0 (by omega)
  rw [← seaW_0 α hap] at e
  rw [← e]
  simp only [↓reduceIte, e42_0, e42_1, e42_2, e42_5, e42_8, e42_9, e42_10, e42_13, e42_16, e42_17, e42_18, e42_21, e42_24, e42_25, e42_26, e42_29, e42_32, e42_33, e42_34, e42_37, e42_40, e42_41, e42_42, e42_45, e42_48, e42_49, e42_52, e42_53, e42_54, e42_57, e42_58, e42_61, e42_64, e42_65, e42_67, e42_68, e42_71, e42_74, e42_75, e42_77, e42_80, e42_81, e42_84, e42_85, e42_86, e42_87, e42_90, e42_91, e42_92, e42_95, e42_98, e42_101, gf6_0 c1, gf6_1 c1, gf6_2 c1, gf6_3 c1, gf6_4 c1, gf6_5 c1, gf6_6 c1, gf6_6 b1, pf6_0 b1, pf6_1 b1, pf6_2 b1, pf6_3 b1, pf6_4 b1, pf6_5 b1, up2_ne _ hne', cpI_HC c2 b2 c3 b3, up2_ne _ (show C + 1 ≠ B by omega), up2_ne _ (show B + 1 ≠ B by omega), aft_v, aft_n, Option.bind_some, rf_some, ck_i, ck_r, ck_n, nb0, nb1, nbi, Nat.reduceAdd, if_true, if_false, not_false_eq_true, not_true_eq_false]
  rfl
end S35
