/-! the law's check 'ropes' -/
/-- what goes in pairs is an even number -/
theorem pairs (n : Nat) (f : Nat → Nat) : ∀ b (P : Nat → Bool), b ≤ n → (∀ i, P i = true → i < b) → (∀ i, P i = true → f i < b ∧ f i ≠ i ∧ P (f i) = true ∧ f (f i) = i) → ∃ m, m ≤ b ∧ cntF (fun i => P i = true) n 0 0 = J (2 * m) := by
  intro b
  induction b with
  | zero =>
    intro P _ h _
    exact ⟨0, by omega, cnt_none _ _ _ _ (fun c _ q => absurd (h c q) (by omega))⟩
  | succ b ih =>
    intro P hb h hf
    cases hP : P b with
    | false =>
      have h' : ∀ i, P i = true → i < b := fun i q => by
        have := h i q
        have : i ≠ b := fun w => by rw [w, hP] at q; cases q
        omega
      obtain ⟨m, m1, m2⟩ := ih P (by omega) h' (fun i q => by
        obtain ⟨a1, a2, a3, a4⟩ := hf i q
        exact ⟨h' _ a3, a2, a3, a4⟩)
      exact ⟨m, by omega, m2⟩
    | true =>
      obtain ⟨a1, a2, a3, a4⟩ := hf b hP
      have jl : f b < b := by omega
      have key : ∀ i, P i = true → i ≠ b → i ≠ f b → f i < b ∧ f i ≠ b ∧ f i ≠ f b := fun i q q1 q2 => by
        obtain ⟨c1, c2, c3, c4⟩ := hf i q
        have e1 : f i ≠ b := fun w => q2 (by rw [← w, c4])
        have e2 : f i ≠ f b := fun w => q1 (by rw [← c4, w, a4])
        exact ⟨by omega, e1, e2⟩
      obtain ⟨m, m1, m2⟩ := ih (fun i => P i && (i != b) && (i != f b)) (by omega) (fun i q => by
        simp only [Bool.and_eq_true, bne_iff_ne, ne_eq] at q
        have := h i q.1.1
        have := q.1.2
        omega) (fun i q => by
        simp only [Bool.and_eq_true, bne_iff_ne, ne_eq] at q ⊢
        obtain ⟨k1, k2, k3⟩ := key i q.1.1 q.1.2 q.2
        obtain ⟨c1, c2, c3, c4⟩ := hf i q.1.1
        exact ⟨k1, c2, ⟨⟨c3, k2⟩, k3⟩, c4⟩)
      refine ⟨m + 1, by omega, ?_⟩
      have e1 := cnt_flip (fun i => (P i && (i != b)) = true) (fun i => P i = true) (x := b) (by simp) hP n 0 0 (fun y hy _ _ => by simp [hy]) (Nat.zero_le _) (by omega)
      have e2 := cnt_flip (fun i => (P i && (i != b) && (i != f b)) = true) (fun i => (P i && (i != b)) = true) (x := f b) (by simp) (by simp [a3]; omega) n 0 0 (fun y hy _ _ => by simp [hy]) (Nat.zero_le _) (by omega)
      rw [e1, e2, m2, J_succ, J_succ]
      congr 1
/-- as many ships are grappled as go in pairs -/
theorem tie_even {α : Mem} {n : Nat} (S : Sg α n) : ∃ m, m ≤ n ∧ cntF (fun q => ¬ α (7 + q) 12 = -1) n 0 0 = J (2 * m) := by
  have h8 := S.1.n8
  have hq : ∀ i, i < n → ¬ α (7 + i) 12 = -1 → ∃ j, j < n ∧ j ≠ i ∧ α (7 + i) 12 = J j ∧ α (7 + j) 12 = J i := fun i hi q => by
    rcases S.1.part i hi with e | ⟨j, j1, j2, j3⟩
    · exact absurd e q
    · exact ⟨j, j1, j2, j3, (S.2.2.2 i j hi j1 j3).1⟩
  obtain ⟨m, m1, m2⟩ := pairs n (fun i => (α (7 + i) 12).toNatClampNeg) n (fun i => decide (i < n) && decide (¬ α (7 + i) 12 = -1)) (Nat.le_refl n) (fun i q => by
    simp only [Bool.and_eq_true, decide_eq_true_eq] at q; exact q.1) (fun i q => by
    simp only [Bool.and_eq_true, decide_eq_true_eq] at q ⊢
    obtain ⟨j, j1, j2, j3, j4⟩ := hq i q.1 q.2
    have ej : (α (7 + i) 12).toNatClampNeg = j := by rw [j3]; exact J_tn (by omega)
    rw [ej, j4]
    exact ⟨j1, j2, ⟨j1, Jm1 (by omega)⟩, J_tn (by omega)⟩)
  refine ⟨m, m1, ?_⟩
  rw [← m2]
  refine cnt_cg (fun i => (decide (i < n) && decide (¬ α (7 + i) 12 = -1)) = true) (fun q => ¬ α (7 + q) 12 = -1) n 0 0 (fun y _ hy => ?_)
  simp only [Bool.and_eq_true, decide_eq_true_eq]
  exact ⟨fun w => ⟨by omega, w⟩, fun w => w.2⟩
/-- a ship that is grappled reaches its own cell alone -/
theorem mx_none (y : Nat) : mxP (fun _ => -1) y = -1 := mx_eq (M := -1) (by decide) (fun _ _ => by decide) (Or.inl rfl)
theorem reach_tied {α : Mem} {n i : Nat} (H : Ok α n) (hi : i < n) (ha : 0 < α (7 + i) 3) (ht : ¬ α (7 + i) 12 = -1) {r : Int32} (h : RV α n i r) : r = 1 := by
  rcases h with ⟨q, -⟩ | ⟨-, pF, p1, p2⟩
  · exact absurd ha q
  · have e0 : phN α i = 0 := by unfold phN; rw [if_neg (fun w => ht w.2)]
    rw [e0] at p1
    have p1 : pF = pts0 α i := p1
    rw [p2, p1]
    have hc := H.clJ hi
    have hp := H.pts i hi
    have hw := H.wyJ hi
    have hh := (H.hdJ hi).1
    have Gn : Gd (fun _ => (-1 : Int32)) (α (7 + i) 9) := fun t _ => Or.inl rfl
    have e := fun y hy => mx_upt (pt := fun _ => -1) hp.1 Gn (x := (α (7 + i) 1).toNatClampNeg) (b := 2 * hdA α (7 + i) + (α (7 + i) 14).toNatClampNeg) hc.2 (by omega) (y := y) hy
    have nm : ¬ α (7 + i) 9 = -1 := by rw [i32_eq, tim1]; omega
    have c1 := cnt_flip (fun x => ¬ mxP (fun _ => -1) x = -1) (fun x => ¬ mxP (pts0 α i) x = -1) (x := (α (7 + i) 1).toNatClampNeg) (fun w => w (mx_none _)) (by
      show ¬ mxP (upt _ _ _) _ = -1
      rw [e _ hc.2, if_pos ⟨rfl, mx_none _⟩]; exact nm) 144 0 0 (fun y hy _ hy2 => by
      show ¬ mxP (upt _ _ _) _ = -1 ↔ _
      rw [e y (by omega), if_neg (fun w => hy w.1)]) (Nat.zero_le _) (by have := hc.2; omega)
    rw [c1, cnt_none _ _ _ _ (fun c _ w => w (mx_none c))]
    rfl
theorem z3 : ¬ (3 : Int32) = 0 := by decide
theorem crew_1 {a b : Int32} (ha : 1 ≤ a.toInt ∧ a.toInt ≤ 60) (hb : 1 ≤ b.toInt ∧ b.toInt ≤ 60) : (mxC 1 (a - (b + 3) / 4) = if 1 ≤ a - (b + 3) / 4 then a - (b + 3) / 4 else 1) ∧ ¬ a < mxC 1 (a - (b + 3) / 4) ∧ 1 ≤ (mxC 1 (a - (b + 3) / 4)).toInt ∧ (mxC 1 (a - (b + 3) / 4)).toInt ≤ a.toInt := by
  have t3 : (3 : Int32).toInt = 3 := rfl
  have t4 : (4 : Int32).toInt = 4 := rfl
  have e1 := add_ti (x := b) (y := 3) (by omega) (by omega)
  have e2 := tidiv (x := b + 3) (y := 4) (by omega) (by decide)
  rw [e1, t3, t4] at e2
  have e3 := sub_ti (x := a) (y := (b + 3) / 4) (by omega) (by omega)
  have e4 := mx_ti 1 (a - (b + 3) / 4)
  rw [ti1, e3] at e4
  refine ⟨?_, ?_, ?_, ?_⟩
  · by_cases q : 1 ≤ a - (b + 3) / 4
    · rw [if_pos q, i32_eq, e4, e3]; rw [i32_le, ti1, e3] at q; split <;> omega
    · rw [if_neg q, i32_eq, e4, ti1]; rw [i32_le, ti1, e3] at q; split <;> omega
  · rw [i32_lt, e4]; split <;> omega
  · rw [e4]; split <;> omega
  · rw [e4]; split <;> omega
theorem crew_2 {a c : Int32} (hc : 1 ≤ c.toInt ∧ c.toInt ≤ a.toInt) (ha : a.toInt ≤ 60) : ¬ a < c - mnC ((c + 3) / 4) (c - 1) ∧ ¬ c - mnC ((c + 3) / 4) (c - 1) < 1 ∧ ¬ mxC 1 (mnC ((c + 3) / 4) (c - 1)) < 1 ∧ ¬ a + 1 < c - mnC ((c + 3) / 4) (c - 1) + mxC 1 (mnC ((c + 3) / 4) (c - 1)) := by
  have t3 : (3 : Int32).toInt = 3 := rfl
  have t4 : (4 : Int32).toInt = 4 := rfl
  have e1 := add_ti (x := c) (y := 3) (by omega) (by omega)
  have e2 := tidiv (x := c + 3) (y := 4) (by omega) (by decide)
  rw [e1, t3, t4] at e2
  have e3 := sub_ti (x := c) (y := 1) (by rw [ti1]; omega) (by rw [ti1]; omega)
  rw [ti1] at e3
  have e4 := mn_ti ((c + 3) / 4) (c - 1)
  rw [e2, e3] at e4
  have g : 0 ≤ (mnC ((c + 3) / 4) (c - 1)).toInt ∧ (mnC ((c + 3) / 4) (c - 1)).toInt ≤ c.toInt - 1 := by rw [e4]; split <;> omega
  generalize mnC ((c + 3) / 4) (c - 1) = go at g
  have e5 := sub_ti (x := c) (y := go) (by omega) (by omega)
  have e6 := mx_ti 1 go
  rw [ti1] at e6
  have e7 := add_ti (x := c - go) (y := mxC 1 go) (by rw [e5, e6]; split <;> omega) (by rw [e5, e6]; split <;> omega)
  have e8 := add_ti (x := a) (y := 1) (by rw [ti1]; omega) (by rw [ti1]; omega)
  rw [i32_lt, i32_lt, i32_lt, i32_lt, e7, e8, e5, e6, ti1]
  split <;> omega
section S94
variable {z : Zr} {α β γ : Mem} {π : Nat → Nat} {η : Int64} {o : Nat → Int64} {od : Nat → UInt64} {n k : Nat}
/-- the other ship is boarded -/
theorem t136 (G : Gs α π n k) {i j : Nat} (hi : i < n) (hj : j < n) (hij : j ≠ i) (hm : α (7 + i) 12 = J j) (hb : α (7 + i) 13 = 0) : ∃ α' π' k', Run 136 0 [some (.ref (3)), some (.int (J i)), none] [] (HC z α π β η o od) = some (.inl (some (.int (if 0 < α (7 + j) 7 - (α (7 + i) 7 + 2) / 3 then 0 else 1))), (HC z α' π' β η o od)) ∧ Dn α π n k α' π' n k' ∧ α' (7 + i) 0 = α (7 + i) 0 ∧ α' (7 + i) 13 = 1 ∧ (∀ q, q < n → α' (7 + q) 3 = α (7 + q) 3) ∧ (0 < α (7 + j) 7 - (α (7 + i) 7 + 2) / 3 → α' (7 + i) 7 = mxC 1 (α (7 + i) 7 - (α (7 + j) 7 + 3) / 4) ∧ α' (7 + j) 7 = α (7 + j) 7 - (α (7 + i) 7 + 2) / 3 ∧ α' (7 + i) 12 = J j) ∧ (¬ 0 < α (7 + j) 7 - (α (7 + i) 7 + 2) / 3 → α' (7 + i) 7 = mxC 1 (α (7 + i) 7 - (α (7 + j) 7 + 3) / 4) - mnC ((mxC 1 (α (7 + i) 7 - (α (7 + j) 7 + 3) / 4) + 3) / 4) (mxC 1 (α (7 + i) 7 - (α (7 + j) 7 + 3) / 4) - 1) ∧ α' (7 + j) 7 = mxC 1 (mnC ((mxC 1 (α (7 + i) 7 - (α (7 + j) 7 + 3) / 4) + 3) / 4) (mxC 1 (α (7 + i) 7 - (α (7 + j) 7 + 3) / 4) - 1)) ∧ α' (7 + j) 0 = α (7 + i) 0 ∧ α' (7 + i) 12 = -1 ∧ α' (7 + j) 12 = -1) := by
  have h8 := G.ok.n8
  have ei := sv_7 G (show i < 8 by omega)
  have ej := sv_7 G (show j < 8 by omega)
  have n1 : 7 + j ≠ 7 + i := by omega
  have hm1 : saveC α π n k (7 + i) 12 = J j := by rw [ei]; exact hm
  have hr := s99 (z := z) (β := β) (η := η) (o := o) (od := od) G.ok G.hp G.hk G.h4 hi hj hij hm hb
  rw [ei, ej] at hr
  have F := (storm_end (sv_sg G).1 hi hj hij).2.2
  have K := Kp_stormA (saveC α π n k) n i j
  have A7i : stormA (saveC α π n k) i j (7 + i) 7 = mxC 1 (α (7 + i) 7 - (α (7 + j) 7 + 3) / 4) := by
    unfold stormA; rw [up2_rd _ _ _ _ _ (by decide), up2_rr, ei, ej]
  have A7j : stormA (saveC α π n k) i j (7 + j) 7 = α (7 + j) 7 - (α (7 + i) 7 + 2) / 3 := by
    unfold stormA; rw [up2_ne _ n1, up2_ne _ n1, up2_rr, ei, ej]
  have A13 : stormA (saveC α π n k) i j (7 + i) 13 = 1 := by unfold stormA; rw [up2_rr]
  have A0 : stormA (saveC α π n k) i j (7 + i) 0 = α (7 + i) 0 := by rw [(K.2.2 i hi).1, ei]
  have A12 : stormA (saveC α π n k) i j (7 + i) 12 = J j := by rw [(K.2.2 i hi).2.2.2]; exact hm1
  refine ⟨_, _, _, w136_ok _ hr, Dn_of G F (Sg_storm (sv_sg G) hi hj hij hm1), ?_⟩
  unfold stormC
  rw [ei, ej]
  by_cases w : 0 < α (7 + j) 7 - (α (7 + i) 7 + 2) / 3
  · rw [if_pos w]
    exact ⟨A0, A13, fun q hq => by rw [(K.2.2 q hq).2.2.1, sv_7 G (by omega)], fun _ => ⟨A7i, A7j, A12⟩, fun x => absurd w x⟩
  · rw [if_neg w]
    unfold seizeC
    rw [A7i, A0]
    generalize mxC 1 (α (7 + i) 7 - (α (7 + j) 7 + 3) / 4) = c
    generalize stormA (saveC α π n k) i j = X at K A13 A0 A12
    have O : up2 (up2 (up2 X (7 + i) 7 (c - mnC ((c + 3) / 4) (c - 1))) (7 + j) 7 (mxC 1 (mnC ((c + 3) / 4) (c - 1)))) (7 + j) 0 (α (7 + i) 0) (7 + i) 12 = J j := by
      rw [up2_ne _ n1.symm, up2_ne _ n1.symm, up2_rd _ _ _ _ _ (by decide)]; exact A12
    refine ⟨?_, ?_, fun q hq => ?_, fun x => absurd x w, fun _ => ⟨?_, ?_, ?_, ?_, ?_⟩⟩
    · rw [loose_o _ _ _ (by decide), up2_ne _ n1.symm, up2_ne _ n1.symm, up2_rd _ _ _ _ _ (by decide)]; exact A0
    · rw [loose_o _ _ _ (by decide), up2_ne _ n1.symm, up2_ne _ n1.symm, up2_rd _ _ _ _ _ (by decide)]; exact A13
    · rw [loose_o _ _ _ (by decide), up2_s, if_neg (fun w => absurd w.2 (by decide)), up2_s, if_neg (fun w => absurd w.2 (by decide)), up2_s, if_neg (fun w => absurd w.2 (by decide)), (K.2.2 q hq).2.2.1, sv_7 G (by omega)]
    · rw [loose_o _ _ _ (by decide), up2_ne _ n1.symm, up2_ne _ n1.symm, up2_rr]
    · rw [loose_o _ _ _ (by decide), up2_rd _ _ _ _ _ (by decide), up2_rr]
    · rw [loose_o _ _ _ (by decide), up2_rr]
    · rw [loose_12 h8 (Or.inr ⟨j, hj, O⟩) hi, if_pos (Or.inl rfl)]
    · rw [loose_12 h8 (Or.inr ⟨j, hj, O⟩) hj, if_pos (Or.inr O)]
end S94
