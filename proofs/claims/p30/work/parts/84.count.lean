/-! counts of what a sea holds -/
theorem shipOn_iff {α : Mem} {c : Int32} : ∀ k i, i + k ≤ 8 → (shipOnF α c k i = -1 ↔ ∀ j, i ≤ j → j < i + k → ¬ (0 < α (7 + j) 3 ∧ α (7 + j) 1 = c)) := by
  intro k
  induction k with
  | zero => intro i _; exact ⟨fun _ j h1 h2 => absurd h2 (by omega), fun _ => rfl⟩
  | succ k ih =>
    intro i hi
    rw [shipOnF]
    by_cases q : 0 < α (7 + i) 3 ∧ α (7 + i) 1 = c
    · rw [if_pos q]
      exact ⟨fun w => absurd w (Jm1 (by omega)), fun w => absurd q (w i (Nat.le_refl i) (by omega))⟩
    · rw [if_neg q, ih (i + 1) (by omega)]
      constructor
      · intro w j h1 h2
        by_cases e : j = i
        · rw [e]; exact q
        · exact w j (by omega) (by omega)
      · intro w j h1 h2; exact w j (by omega) (by omega)
theorem shipOn_some {α : Mem} {c : Int32} : ∀ k i, i + k ≤ 8 → shipOnF α c k i = -1 ∨ ∃ j, i ≤ j ∧ j < i + k ∧ shipOnF α c k i = J j ∧ 0 < α (7 + j) 3 ∧ α (7 + j) 1 = c := by
  intro k
  induction k with
  | zero => intro i _; exact Or.inl rfl
  | succ k ih =>
    intro i hi
    rw [shipOnF]
    by_cases q : 0 < α (7 + i) 3 ∧ α (7 + i) 1 = c
    · rw [if_pos q]; exact Or.inr ⟨i, Nat.le_refl i, by omega, rfl, q.1, q.2⟩
    · rw [if_neg q]
      rcases ih (i + 1) (by omega) with h | ⟨j, h1, h2, h3⟩
      · exact Or.inl h
      · exact Or.inr ⟨j, by omega, by omega, h3⟩
/-- what is on a cell -/
theorem thing3 {α : Mem} {n : Nat} (S : Sg α n) (c : Int32) : (rockC α c ∧ thingC α n c = -2 ∧ shipOnF α c n 0 = -1) ∨ (¬ rockC α c ∧ thingC α n c = -1 ∧ shipOnF α c n 0 = -1) ∨ (¬ rockC α c ∧ ∃ q, q < n ∧ thingC α n c = J q ∧ shipOnF α c n 0 = J q ∧ 0 < α (7 + q) 3 ∧ α (7 + q) 1 = c) := by
  have h8 := S.1.n8
  by_cases r : rockC α c
  · refine Or.inl ⟨r, by unfold thingC; rw [if_pos r], ?_⟩
    rw [shipOn_iff n 0 (by omega)]
    intro j _ hj q
    apply r.2
    rw [← q.2]
    exact S.2.2.1 j (by omega) q.1
  · have e : thingC α n c = shipOnF α c n 0 := by unfold thingC; rw [if_neg r]
    rcases shipOn_some (α := α) (c := c) n 0 (by omega) with h | ⟨j, _, h2, h3, h4, h5⟩
    · exact Or.inr (Or.inl ⟨r, by rw [e]; exact h, h⟩)
    · exact Or.inr (Or.inr ⟨r, j, by omega, by rw [e]; exact h3, h3, h4, h5⟩)
theorem at_own {α : Mem} {n i : Nat} (S : Sg α n) (hi : i < n) (ha : 0 < α (7 + i) 3) : thingC α n (α (7 + i) 1) = J i := by
  have h8 := S.1.n8
  rcases thing3 S (α (7 + i) 1) with ⟨r, -, -⟩ | ⟨-, -, h⟩ | ⟨-, q, hq, h1, -, h2, h3⟩
  · exact absurd (S.2.2.1 i hi ha) r.2
  · rw [shipOn_iff n 0 (by omega)] at h
    exact absurd ⟨ha, rfl⟩ (h i (Nat.zero_le _) (by omega))
  · by_cases e : q = i
    · rw [h1, e]
    · exact absurd h3 (S.2.1 q i hq hi e h2 ha)
theorem cnt_last (p : Nat → Prop) [DecidablePred p] (m : Nat) (v : Int32) : cntF p (m + 1) 0 v = if p m then cntF p m 0 v + 1 else cntF p m 0 v := by
  rw [cnt_app, Nat.zero_add, cntF, cntF]
theorem cell_szN {α : Mem} {n : Nat} (H : Ok α n) {c : Int32} (hc : isCellC α 4 c) : ∃ x, x < szN α ∧ c = J x := (cell_lt H).mp hc
/-- as many cells with a ship on them as ships afloat -/
theorem cnt_on {α : Mem} {n : Nat} (S : Sg α n) : ∀ m, m ≤ n → cntF (fun c => ¬ shipOnF α (J c) m 0 = -1) (szN α) 0 0 = cntF (fun i => 0 < α (7 + i) 3) m 0 0 := by
  have h8 := S.1.n8
  have hs := S.1.sz
  intro m
  induction m with
  | zero => intro _; rw [cntF]; exact cnt_none _ _ _ _ (fun c _ q => q rfl)
  | succ m ih =>
    intro hm
    rw [cnt_last]
    by_cases q : 0 < α (7 + m) 3
    · rw [if_pos q, ← ih (by omega)]
      obtain ⟨x, hx, ex⟩ := cell_szN S.1 (S.1.isC (show m < n by omega))
      refine cnt_flip (fun c => ¬ shipOnF α (J c) m 0 = -1) (fun c => ¬ shipOnF α (J c) (m + 1) 0 = -1) (x := x) (fun w => w ?_) (fun w => ?_) _ _ _ (fun y hy _ hy2 => ?_) (Nat.zero_le _) (by omega)
      · rw [shipOn_iff m 0 (by omega)]
        intro j _ hj w
        exact S.2.1 j m (by omega) (by omega) (by omega) w.1 q (by rw [w.2, ex])
      · rw [shipOn_iff (m + 1) 0 (by omega)] at w
        exact w m (Nat.zero_le _) (by omega) ⟨q, ex⟩
      · rw [shipOn_iff (m + 1) 0 (by omega), shipOn_iff m 0 (by omega)]
        refine not_congr ⟨fun w j h1 h2 => w j h1 (by omega), fun w j h1 h2 => ?_⟩
        by_cases e : j = m
        · rw [e, ex]; exact fun u => hy (by have := u.2; rw [J_eq (by omega) (by omega)] at this; exact this.symm)
        · exact w j h1 (by omega)
    · rw [if_neg q, ← ih (by omega)]
      refine cnt_cg (fun c => ¬ shipOnF α (J c) m 0 = -1) (fun c => ¬ shipOnF α (J c) (m + 1) 0 = -1) _ _ _ (fun y _ _ => ?_)
      rw [shipOn_iff (m + 1) 0 (by omega), shipOn_iff m 0 (by omega)]
      refine not_congr ⟨fun w j h1 h2 => w j h1 (by omega), fun w j h1 h2 => ?_⟩
      by_cases e : j = m
      · rw [e]; exact fun u => q u.1
      · exact w j h1 (by omega)
theorem cnt_rk {α : Mem} {n : Nat} (H : Ok α n) : cntF (fun c => rockC α (J c)) (szN α) 0 0 = valC α n 8 := by
  have hs := H.sz
  show _ = cntF (fun c => rockC α (J c)) 144 0 0
  rw [show 144 = szN α + (144 - szN α) by omega, cnt_app]
  have : ∀ k c v, szN α ≤ c → c + k = 144 → cntF (fun c => rockC α (J c)) k c v = v := by
    intro k
    induction k with
    | zero => intro c v _ _; rfl
    | succ k ih =>
      intro c v h1 h2
      have hn : ¬ rockC α (J c) := fun w => by
        obtain ⟨x, hx, e⟩ := cell_szN H w.1
        rw [J_eq (by omega) (by omega)] at e
        omega
      rw [cntF, if_neg hn, ih _ _ (by omega) (by omega)]
  exact (this (144 - szN α) (0 + szN α) _ (by omega) (by omega)).symm
theorem cnt_J (p : Nat → Prop) [DecidablePred p] : ∀ k i a, ∃ m, m ≤ k ∧ cntF p k i (J a) = J (a + m) ∧ (m = 0 ↔ ∀ c, i ≤ c → c < i + k → ¬ p c) := by
  intro k
  induction k with
  | zero => intro i a; exact ⟨0, by omega, rfl, fun _ c h1 h2 => absurd h2 (by omega), fun _ => rfl⟩
  | succ k ih =>
    intro i a
    rw [cntF]
    by_cases q : p i
    · rw [if_pos q, J_succ]
      obtain ⟨m, h1, h2, h3⟩ := ih (i + 1) (a + 1)
      exact ⟨m + 1, by omega, by rw [h2]; congr 1; omega, fun w => absurd w (by omega), fun w => absurd q (w i (Nat.le_refl i) (by omega))⟩
    · rw [if_neg q]
      obtain ⟨m, h1, h2, h3⟩ := ih (i + 1) a
      refine ⟨m, by omega, h2, fun w c c1 c2 => ?_, fun w => h3.mpr (fun c c1 c2 => w c (by omega) (by omega))⟩
      by_cases e : c = i
      · rw [e]; exact q
      · exact h3.mp w c (by omega) (by omega)
theorem last_spec (p : Nat → Prop) [DecidablePred p] : ∀ k, (lastF p k = -1 ∧ ∀ c, c < k → ¬ p c) ∨ ∃ c, c < k ∧ p c ∧ lastF p k = J c := by
  intro k
  induction k with
  | zero => exact Or.inl ⟨rfl, fun c h => absurd h (by omega)⟩
  | succ k ih =>
    rw [lastF]
    by_cases q : p k
    · rw [if_pos q]; exact Or.inr ⟨k, by omega, q, rfl⟩
    · rw [if_neg q]
      rcases ih with ⟨h1, h2⟩ | ⟨c, h1, h2, h3⟩
      · refine Or.inl ⟨h1, fun c hc => ?_⟩
        by_cases e : c = k
        · rw [e]; exact q
        · exact h2 c (by omega)
      · exact Or.inr ⟨c, by omega, h2, h3⟩
/-- the rocks' number and the last rock -/
theorem rocks_ok {α : Mem} {n : Nat} (H : Ok α n) : (valC α n 8 = 0 ∧ valC α n 9 = -1) ∨ (¬ valC α n 8 = 0 ∧ ¬ valC α n 9 = -1 ∧ rockC α (valC α n 9)) := by
  obtain ⟨m, h1, h2, h3⟩ := cnt_J (fun c => rockC α (J c)) 144 0 0
  have e8 : valC α n 8 = J m := by rw [Nat.zero_add] at h2; exact h2
  rcases last_spec (fun c => rockC α (J c)) 144 with ⟨g1, g2⟩ | ⟨c, g1, g2, g3⟩
  · have : m = 0 := h3.mpr (fun c _ hc => g2 c (by omega))
    exact Or.inl ⟨by rw [e8, this]; rfl, g1⟩
  · have hm : ¬ m = 0 := fun w => h3.mp w c (Nat.zero_le _) (by omega) g2
    refine Or.inr ⟨?_, ?_, ?_⟩
    · rw [e8, J0, J_eq (by omega) (by omega)]; exact hm
    · show ¬ lastF (fun c => rockC α (J c)) 144 = -1
      rw [g3]; exact Jm1 (by omega)
    · show rockC α (lastF (fun c => rockC α (J c)) 144)
      rw [g3]; exact g2
theorem cnt_two (p q r : Nat → Prop) [DecidablePred p] [DecidablePred q] [DecidablePred r] : ∀ k i a b, (∀ j, i ≤ j → j < i + k → (p j ↔ q j ∨ r j) ∧ ¬ (q j ∧ r j)) → cntF p k i (a + b) = cntF q k i a + cntF r k i b := by
  intro k
  induction k with
  | zero => intro i a b _; rfl
  | succ k ih =>
    intro i a b h
    rw [cntF, cntF, cntF]
    have hi := h i (Nat.le_refl i) (by omega)
    have h' : ∀ j, i + 1 ≤ j → j < i + 1 + k → (p j ↔ q j ∨ r j) ∧ ¬ (q j ∧ r j) := fun j h1 h2 => h j (by omega) (by omega)
    by_cases cq : q i
    · have cr : ¬ r i := fun w => hi.2 ⟨cq, w⟩
      have e : a + b + 1 = a + 1 + b := by rw [Int32.add_assoc, Int32.add_comm b 1, ← Int32.add_assoc]
      rw [if_pos (hi.1.mpr (Or.inl cq)), if_pos cq, if_neg cr, e, ih _ _ _ h']
    · by_cases cr : r i
      · rw [if_pos (hi.1.mpr (Or.inr cr)), if_neg cq, if_pos cr, Int32.add_assoc, ih _ _ _ h']
      · rw [if_neg (fun w => (hi.1.mp w).elim cq cr), if_neg cq, if_neg cr, ih _ _ _ h']
theorem cnt_sides {α : Mem} {n : Nat} (H : Ok α n) : valC α n 6 + valC α n 7 = cntF (fun i => 0 < α (7 + i) 3) n 0 0 := by
  refine (cnt_two (fun i => 0 < α (7 + i) 3) (fun i => 0 < α (7 + i) 3 ∧ α (7 + i) 0 = 0) (fun i => 0 < α (7 + i) 3 ∧ α (7 + i) 0 = 1) n 0 0 0 (fun j _ hj => ⟨⟨fun w => ?_, fun w => w.elim (fun x => x.1) (fun x => x.1)⟩, fun w => ?_⟩)).symm
  · exact (H.side j (by omega)).elim (fun x => Or.inl ⟨w, x⟩) (fun x => Or.inr ⟨w, x⟩)
  · have := w.1.2.symm.trans w.2.2
    exact absurd this (by decide)
theorem spd0_tab : ∀ a, a < 4 → ∀ w, w < 4 → ∀ s, s < 21 → (((J (facN a) * J w * J s + 19) / 20 = 0) ↔ (a = 3 ∨ s = 0 ∨ w = 0)) := by decide +kernel
theorem spd_0 {α : Mem} {n : Nat} (H : Ok α n) {i : Nat} (hi : i < n) : (spdC α (7 + i) (hdA α (7 + i)) (wdN α) = 0) ↔ (angN (hdA α (7 + i)) (wdN α) = 3 ∨ α (7 + i) 4 = 0 ∨ α 4 3 = 0) := by
  have hs := H.sails i hi
  have hw := H.ws
  obtain ⟨s, s1, s2⟩ := J_rng (k := 21) hs.1 (by omega)
  obtain ⟨w, w1, w2⟩ := J_rng (k := 4) hw.1 (by omega)
  have ha := ang_le _ (H.hdJ hi).1 _ H.wdJ.1
  unfold spdC
  rw [s2, w2, spd0_tab _ (by omega) w w1 s s1, J0, J_eq (by omega) (by omega), J_eq (by omega) (by omega)]
