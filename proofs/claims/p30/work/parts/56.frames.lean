/-! what a call leaves: the frame, cells of their own, the same sea -/
abbrev Sq (α α1 : Mem) : Prop := ∀ j, 4 ≤ j → j < 15 → α1 j = α j
theorem shipOn_sq {α α1 : Mem} (h : Sq α α1) (c : Int32) : ∀ k i, i + k ≤ 8 → shipOnF α1 c k i = shipOnF α c k i := by
  intro k
  induction k with
  | zero => intro i _; rfl
  | succ k ih =>
    intro i hi
    unfold shipOnF
    rw [h (7 + i) (by omega) (by omega), ih (i + 1) (by omega)]
theorem nb_sq {α α1 : Mem} (h : Sq α α1) (c : Int32) (e : Nat) : nbC α1 c e = nbC α c e := by
  unfold nbC rowC colC; rw [h 4 (by decide) (by decide)]
theorem sg_sq {α α1 : Mem} (h : Sq α α1) (a b : Int32) : sgC α1 a b = sgC α a b := by
  unfold sgC rowC colC; rw [h 4 (by decide) (by decide)]
theorem fr_sq {α α1 : Mem} (h : Sq α α1) (a b : Int32) : frC α1 a b = frC α a b := by
  unfold frC rowC colC; rw [h 4 (by decide) (by decide)]
theorem free_sq {α α1 : Mem} {n : Nat} (h : Sq α α1) (h8 : n ≤ 8) (c : Int32) : freeC α1 n c = freeC α n c := by
  unfold freeC
  rw [cell_sq h, h 5 (by decide) (by decide), shipOn_sq h c n 0 (by omega)]
theorem hidF_sq {α α1 : Mem} {n : Nat} (h : Sq α α1) (h8 : n ≤ 8) (e : Nat) : ∀ k b, hidF α1 n e k b = hidF α n e k b := by
  intro k
  induction k with
  | zero => intro b; rfl
  | succ k ih =>
    intro b
    unfold hidF
    rw [nb_sq h, ih]
    by_cases q : freeC α n (nbC α b e)
    · rw [if_pos q, if_pos (by rw [free_sq h h8]; exact q)]
    · rw [if_neg q, if_neg (by rw [free_sq h h8]; exact q)]
theorem hid_sq {α α1 : Mem} {n : Nat} (h : Sq α α1) (h8 : n ≤ 8) (a b : Int32) : hidC α1 n a b = hidC α n a b := by
  unfold hidC; rw [sg_sq h, fr_sq h, hidF_sq h h8]
theorem force_sq {α α1 : Mem} {n i j : Nat} (h : Sq α α1) (h8 : n ≤ 8) (hi : i < 8) (hj : j < 8) (r : Int32) : forceC α1 n i r j = forceC α n i r j := by
  have e1 := h (7 + i) (by omega) (by omega)
  have e2 := h (7 + j) (by omega) (by omega)
  have ec : canFC α1 n i r j ↔ canFC α n i r j := by
    unfold canFC; rw [e1, e2, fr_sq h, sg_sq h, hid_sq h h8]
  have er : rakeC α1 i j ↔ rakeC α i j := by
    unfold rakeC; rw [e1, e2, sg_sq h]
  have eb : baseC α1 i r j = baseC α i r j := by
    unfold baseC; rw [e1, e2, fr_sq h]
  unfold forceC
  rw [eb]
  by_cases q1 : canFC α n i r j
  · rw [if_pos q1, if_pos (ec.mpr q1)]
    by_cases q2 : rakeC α i j
    · rw [if_pos q2, if_pos (er.mpr q2)]
    · rw [if_neg q2, if_neg (fun w => q2 (er.mp w))]
  · rw [if_neg q1, if_neg (fun w => q1 (ec.mp w))]
theorem move_sq {α α1 : Mem} {n i : Nat} (h : Sq α α1) (h8 : n ≤ 8) (hi : i < 8) : canMoveC α1 n i ↔ canMoveC α n i := by
  have e1 := h (7 + i) (by omega) (by omega)
  have e4 := h 4 (by decide) (by decide)
  have w : wdN α1 = wdN α := by unfold wdN; rw [e4]
  have d : hdA α1 (7 + i) = hdA α (7 + i) := by unfold hdA; rw [e1]
  unfold canMoveC canSailC
  rw [w, d, e1, nb_sq h, free_sq h h8]
theorem swing_sq {α α1 : Mem} {i : Nat} (h : Sq α α1) (hi : i < 8) (r : Int32) : canSwingC α1 i r ↔ canSwingC α i r := by
  have e1 := h (7 + i) (by omega) (by omega)
  have e4 := h 4 (by decide) (by decide)
  have w : wdN α1 = wdN α := by unfold wdN; rw [e4]
  have d : hdA α1 (7 + i) = hdA α (7 + i) := by unfold hdA; rw [e1]
  unfold canSwingC canSailC
  rw [w, d, e1]
theorem shipOn_no {α : Mem} {c : Int32} : ∀ k i, i + k ≤ 8 → shipOnF α c k i = -1 → ∀ j, i ≤ j → j < i + k → 0 < α (7 + j) 3 → ¬ α (7 + j) 1 = c := by
  intro k
  induction k with
  | zero => intro i _ _ j h1 h2; omega
  | succ k ih =>
    intro i hi h j h1 h2 h3 h4
    unfold shipOnF at h
    split at h
    · exact Jm1 (by omega) h
    · next q =>
      by_cases w : j = i
      · subst w; exact q ⟨h3, h4⟩
      · exact ih (i + 1) (by omega) h j (by omega) (by omega) h3 h4
theorem Dj_cell {α : Mem} {n i : Nat} {c : Int32} (D : Dj α n) (h : ∀ j, j < n → 0 < α (7 + j) 3 → ¬ α (7 + j) 1 = c) : Dj (up2 α (7 + i) 1 c) n := by
  intro a b ha hb hab h1 h2
  rw [up2_s, if_neg (by omega)] at h1 h2
  rw [up2_s, up2_s]
  by_cases qa : a = i
  · rw [if_pos ⟨qa, rfl⟩, if_neg (by omega)]
    exact fun w => h b hb h2 w.symm
  · rw [if_neg (by omega)]
    by_cases qb : b = i
    · rw [if_pos ⟨qb, rfl⟩]
      exact h a ha h1
    · rw [if_neg (by omega)]
      exact D a b ha hb hab h1 h2
theorem Dj_free {α : Mem} {n i : Nat} {c : Int32} (h8 : n ≤ 8) (D : Dj α n) (h : freeC α n c) : Dj (up2 α (7 + i) 1 c) n :=
  Dj_cell D (fun j hj h3 => shipOn_no n 0 (by omega) h.2.2 j (by omega) (by omega) h3)
theorem Dj_hull {α : Mem} {n i : Nat} {v : Int32} (D : Dj α n) (h : 0 < v → 0 < α (7 + i) 3) : Dj (up2 α (7 + i) 3 v) n := by
  have e : ∀ a, 0 < up2 α (7 + i) 3 v (7 + a) 3 → 0 < α (7 + a) 3 := fun a h1 => by
    rw [up2_s] at h1
    split at h1
    · next q => rw [q.1]; exact h h1
    · exact h1
  intro a b ha hb hab h1 h2
  rw [up2_s, up2_s, if_neg (by omega), if_neg (by omega)]
  exact D a b ha hb hab (e a h1) (e b h2)
theorem Dj_move {α : Mem} {n i : Nat} (H : Ok α n) (D : Dj α n) (hm : canMoveC α n i) : Dj (moveC α i) n := by
  unfold moveC
  exact Dj_up (Dj_up (Dj_free H.n8 D hm.2.2) (by decide)) (by decide)
theorem Dj_swing {α : Mem} {n : Nat} (D : Dj α n) (a : Nat) (v : Int32) : Dj (swingC α a v) n := by
  unfold swingC
  exact Dj_up (Dj_up (Dj_up D (by decide)) (by decide)) (by decide)
theorem Dj_loose {α : Mem} {n : Nat} (D : Dj α n) (a : Nat) : Dj (looseC α a) n := by
  unfold looseC
  split
  · exact Dj_up D (by decide)
  · exact Dj_up (Dj_up D (by decide)) (by decide)
theorem Dj_dr1 (n : Nat) : ∀ k i α v, i + k = n → Ok α n → Dj α n → Dj (dr1 n k i α v).1 n := by
  intro k
  induction k with
  | zero => intro i α v _ _ D; exact D
  | succ k ih =>
    intro i α v hi H D
    unfold dr1
    split
    · next q => exact ih _ _ _ (by omega) (Ok_drift H q) (Dj_free H.n8 D q.2.2.2.2)
    · exact ih _ _ _ (by omega) H D
theorem Dj_dr2 (n : Nat) : ∀ k i α, Dj α n → Dj (dr2 k i α) n := by
  intro k
  induction k with
  | zero => intro i α D; exact D
  | succ k ih =>
    intro i α D
    unfold dr2
    refine ih _ _ ?_
    unfold readyC shortC
    exact Dj_up (Dj_up (Dj_up (Dj_up (Dj_up D (by decide)) (by decide)) (by decide)) (by decide)) (by decide)
theorem Dj_fin {α : Mem} {n : Nat} (H : Ok α n) (D : Dj α n) : Dj (finC α n) n := by
  unfold finC
  exact Dj_dr2 n n 0 _ (Dj_4 (Dj_dr1 n n 0 α 0 (by omega) H D) (by decide))
theorem Fs_move (α : Mem) {i : Nat} (h : i < 8) : Fs α (moveC α i) := by
  unfold moveC
  exact Fs_t (Fs_t (Fs_s α h _ _) (Fs_s _ h _ _)) (Fs_s _ h _ _)
theorem Fs_swing (α : Mem) {i : Nat} (h : i < 8) (v : Int32) : Fs α (swingC α (7 + i) v) := by
  unfold swingC
  exact Fs_t (Fs_t (Fs_s α h _ _) (Fs_s _ h _ _)) (Fs_s _ h _ _)
theorem Fs_ready (α : Mem) {i : Nat} (h : i < 8) : Fs α (readyC α (7 + i)) := by
  unfold readyC
  exact Fs_t (Fs_t (Fs_s α h _ _) (Fs_s _ h _ _)) (Fs_s _ h _ _)
theorem Fs_short (α : Mem) {i : Nat} (h : i < 8) : Fs α (shortC α (7 + i)) := by
  unfold shortC
  exact Fs_t (Fs_s α h _ _) (Fs_s _ h _ _)
theorem Fs_loose {α : Mem} {n : Nat} (H : Ok α n) {i : Nat} (h : i < n) : Fs α (looseC α (7 + i)) := by
  have h8 := H.n8
  unfold looseC
  rcases H.pt h with q | ⟨j, hj, q⟩
  · rw [if_pos q]; exact Fs_s α (by omega) _ _
  · rw [if_neg (by rw [q]; exact Jm1 (by omega)), q, J_tn (by omega)]
    exact Fs_t (Fs_s α (show j < 8 by omega) _ _) (Fs_s _ (show i < 8 by omega) _ _)
theorem Fs_dr1 (n : Nat) (h8 : n ≤ 8) : ∀ k i α v, i + k = n → Fs α (dr1 n k i α v).1 := by
  intro k
  induction k with
  | zero => intro i α v _; exact Fs_r α
  | succ k ih =>
    intro i α v hi
    unfold dr1
    split
    · exact Fs_t (Fs_s α (show i < 8 by omega) _ _) (ih _ _ _ (by omega))
    · exact ih _ _ _ (by omega)
theorem Fs_dr2 : ∀ k i α, i + k ≤ 8 → Fs α (dr2 k i α) := by
  intro k
  induction k with
  | zero => intro i α _; exact Fs_r α
  | succ k ih =>
    intro i α hi
    unfold dr2
    exact Fs_t (Fs_t (Fs_short α (by omega)) (Fs_ready _ (by omega))) (ih _ _ (by omega))
theorem Fs_fin {α : Mem} {n : Nat} (h8 : n ≤ 8) : Fs α (finC α n) := by
  unfold finC
  exact Fs_t (Fs_t (Fs_dr1 n h8 n 0 α 0 (by omega)) (Fs_up _ (by decide) _ _)) (Fs_dr2 n 0 _ (by omega))
theorem Dj_hitG {α : Mem} {n : Nat} (D : Dj α n) (i j : Nat) (f : Int32) : Dj (hitG α i j f) n := by
  unfold hitG
  split
  · exact Dj_up D (by decide)
  split
  · exact Dj_up D (by decide)
  · exact D
theorem hitG_3 (α : Mem) (i j : Nat) (f : Int32) : hitG α i j f (7 + j) 3 = α (7 + j) 3 := by
  unfold hitG
  split
  · exact u5_3 ..
  split
  · exact u6_3 ..
  · rfl
theorem Fs_hitG (α : Mem) (i : Nat) {j : Nat} (h : j < 8) (f : Int32) : Fs α (hitG α i j f) := by
  unfold hitG
  split
  · exact Fs_s α h _ _
  split
  · exact Fs_s α h _ _
  · exact Fs_r α
theorem shot_end {α0 : Mem} {n : Nat} (H0 : Ok α0 n) {i j : Nat} (hj : j < n) {f : Int32} (hf : 0 ≤ f.toInt) (aim : Int32) : Ok (if aim = 0 then (hitC α0 i j f, hitL α0 j f) else if aim = 1 then (up2 α0 (7 + j) 4 (α0 (7 + j) 4 - mnC (α0 (7 + j) 4) (f / 6)), mnC (α0 (7 + j) 4) (f / 6)) else (up2 α0 (7 + j) 7 (α0 (7 + j) 7 - mxC 0 (mnC (α0 (7 + j) 7 - 1) (f / 5))), mxC 0 (mnC (α0 (7 + j) 7 - 1) (f / 5)))).1 n ∧ (Dj α0 n → Dj (if aim = 0 then (hitC α0 i j f, hitL α0 j f) else if aim = 1 then (up2 α0 (7 + j) 4 (α0 (7 + j) 4 - mnC (α0 (7 + j) 4) (f / 6)), mnC (α0 (7 + j) 4) (f / 6)) else (up2 α0 (7 + j) 7 (α0 (7 + j) 7 - mxC 0 (mnC (α0 (7 + j) 7 - 1) (f / 5))), mxC 0 (mnC (α0 (7 + j) 7 - 1) (f / 5)))).1 n) ∧ Fs α0 (if aim = 0 then (hitC α0 i j f, hitL α0 j f) else if aim = 1 then (up2 α0 (7 + j) 4 (α0 (7 + j) 4 - mnC (α0 (7 + j) 4) (f / 6)), mnC (α0 (7 + j) 4) (f / 6)) else (up2 α0 (7 + j) 7 (α0 (7 + j) 7 - mxC 0 (mnC (α0 (7 + j) 7 - 1) (f / 5))), mxC 0 (mnC (α0 (7 + j) 7 - 1) (f / 5)))).1 := by
  have h8 := H0.n8
  have h6 := tidv hf 6 (by decide)
  have h5 := tidv hf 5 (by decide)
  by_cases q0 : aim = 0
  · rw [if_pos q0]
    have hl := hitL_bd H0 hj hf
    have hh := H0.hull j hj
    have DH : Dj α0 n → Dj (hitH α0 i j f) n := fun D0 => by
      unfold hitH
      refine Dj_hull (Dj_hitG D0 i j _) (fun w => ?_)
      rw [hitG_3]
      rw [i32_lt, ti0, sub_ti (by omega) (by omega)] at w
      rw [i32_lt, ti0]; omega
    have FH : Fs α0 (hitH α0 i j f) := by
      unfold hitH
      exact Fs_t (Fs_hitG _ i (by omega) _) (Fs_s _ (by omega) _ _)
    refine ⟨Ok_hit H0 i hj hf, fun D0 => ?_, ?_⟩
    · show Dj (hitC α0 i j f) n
      unfold hitC
      by_cases q : 0 < α0 (7 + j) 3 - hitL α0 j f
      · rw [if_pos q]; exact DH D0
      · rw [if_neg q]; exact Dj_loose (DH D0) _
    · show Fs α0 (hitC α0 i j f)
      unfold hitC
      by_cases q : 0 < α0 (7 + j) 3 - hitL α0 j f
      · rw [if_pos q]; exact FH
      · rw [if_neg q]; exact Fs_t FH (Fs_loose (Ok_hitH H0 i hj hf) hj)
  rw [if_neg q0]
  by_cases q1 : aim = 1
  · rw [if_pos q1]
    have hs := H0.sails j hj
    have hb : 0 ≤ (mnC (α0 (7 + j) 4) (f / 6)).toInt ∧ (mnC (α0 (7 + j) 4) (f / 6)).toInt ≤ (α0 (7 + j) 4).toInt := by
      rw [mn_ti]; split <;> omega
    refine ⟨H0.up (vS4 ?_), fun D0 => Dj_up D0 (by decide), Fs_s _ (by omega) _ _⟩
    rw [sub_ti (by omega) (by omega)]; omega
  · rw [if_neg q1]
    have hs := H0.crew j hj
    have e1 := sub_ti (x := α0 (7 + j) 7) (y := 1) (by rw [ti1]; omega) (by rw [ti1]; omega)
    rw [ti1] at e1
    have hb : 0 ≤ (mxC 0 (mnC (α0 (7 + j) 7 - 1) (f / 5))).toInt ∧ (mxC 0 (mnC (α0 (7 + j) 7 - 1) (f / 5))).toInt ≤ (α0 (7 + j) 7).toInt - 1 := by
      rw [mx_ti, mn_ti, ti0, e1]; (repeat' split) <;> omega
    refine ⟨H0.up (vS7 ?_), fun D0 => Dj_up D0 (by decide), Fs_s _ (by omega) _ _⟩
    rw [sub_ti (by omega) (by omega)]; omega
theorem Ok_shot {α : Mem} {n : Nat} (H : Ok α n) {i j : Nat} (hi : i < n) (hj : j < n) (g aim : Int32) (hf : 0 ≤ (forceC α n i g j).toInt) : Ok (shotC α n i g j aim).1 n ∧ (Dj α n → Dj (shotC α n i g j aim).1 n) ∧ Fs α (shotC α n i g j aim).1 := by
  have h8 := H.n8
  have h := shot_end (i := i) (Ok_wait H i g) hj hf aim
  refine ⟨h.1, fun D => h.2.1 (Dj_up D ?_), Fs_t (Fs_s α (by omega) _ _) h.2.2⟩
  split <;> decide
theorem storm_end {α : Mem} {n i j : Nat} (H : Ok α n) (hi : i < n) (hj : j < n) (hij : j ≠ i) : Ok (stormC α i j) n ∧ (Dj α n → Dj (stormC α i j) n) ∧ Fs α (stormC α i j) := by
  have h8 := H.n8
  have n1 : 7 + i ≠ 7 + j := by omega
  have hci := H.crew i hi
  have hcj := H.crew j hj
  have t3 : (3 : Int32).toInt = 3 := rfl
  have a3 := add_ti (x := α (7 + j) 7) (y := 3) (by omega) (by omega)
  have d4 := tidv (f := α (7 + j) 7 + 3) (by omega) 4 (by decide)
  have s4 := sub_ti (x := α (7 + i) 7) (y := (α (7 + j) 7 + 3) / 4) (by omega) (by omega)
  have a2 := add_ti (x := α (7 + i) 7) (y := 2) (by rw [ti2]; omega) (by rw [ti2]; omega)
  rw [ti2] at a2
  have d3 := tidv (f := α (7 + i) 7 + 2) (by omega) 3 (by decide)
  have sb := sub_ti (x := α (7 + j) 7) (y := (α (7 + i) 7 + 2) / 3) (by omega) (by omega)
  have cb : 1 ≤ (mxC 1 (α (7 + i) 7 - (α (7 + j) 7 + 3) / 4)).toInt ∧ (mxC 1 (α (7 + i) 7 - (α (7 + j) 7 + 3) / 4)).toInt ≤ 60 := by
    rw [mx_ti, ti1, s4]; split <;> omega
  have hA : stormA α i j = up2 (up2 (up2 α (7 + j) 7 (α (7 + j) 7 - (α (7 + i) 7 + 2) / 3)) (7 + i) 7 (mxC 1 (α (7 + i) 7 - (α (7 + j) 7 + 3) / 4))) (7 + i) 13 1 := rfl
  generalize mxC 1 (α (7 + i) 7 - (α (7 + j) 7 + 3) / 4) = c at cb hA
  generalize hb : α (7 + j) 7 - (α (7 + i) 7 + 2) / 3 = b' at hA sb
  unfold stormC
  rw [hb]
  by_cases q : 0 < b'
  · rw [if_pos q, hA]
    rw [i32_lt, ti0] at q
    refine ⟨?_, fun D => Dj_up (Dj_up (Dj_up D (by decide)) (by decide)) (by decide), Fs_t (Fs_t (Fs_s α (by omega) _ _) (Fs_s _ (by omega) _ _)) (Fs_s _ (by omega) _ _)⟩
    exact Ok.up' (Ok.up' (H.up (vS7 ⟨by omega, by omega⟩)) α (fun k => (up2_4 ..).symm) (vS7 cb)) α (fun k => by rw [up2_4, up2_4]) (vS13 (Or.inr rfl))
  · rw [if_neg q]
    have g7i : stormA α i j (7 + i) 7 = c := by rw [hA, u13_7, up2_rr]
    have g0i : stormA α i j (7 + i) 0 = α (7 + i) 0 := by rw [hA, u13_0, u7_0, up2_ne _ n1]
    have e1 := add_ti (x := c) (y := 3) (by omega) (by omega)
    have e4 := tidv (f := c + 3) (by omega) 4 (by decide)
    have em := sub_ti (x := c) (y := 1) (by rw [ti1]; omega) (by rw [ti1]; omega)
    rw [ti1] at em
    have gb : 0 ≤ (mnC ((c + 3) / 4) (c - 1)).toInt ∧ (mnC ((c + 3) / 4) (c - 1)).toInt ≤ c.toInt - 1 := by rw [mn_ti]; split <;> omega
    have hS : seizeC (stormA α i j) i j = looseC (up2 (up2 (up2 (stormA α i j) (7 + i) 7 (c - mnC ((c + 3) / 4) (c - 1))) (7 + j) 7 (mxC 1 (mnC ((c + 3) / 4) (c - 1)))) (7 + j) 0 (α (7 + i) 0)) (7 + i) := by
      unfold seizeC; rw [g7i, g0i]
    generalize mnC ((c + 3) / 4) (c - 1) = go at gb hS
    have e5 := sub_ti (x := c) (y := go) (by omega) (by omega)
    have e6 : 1 ≤ (mxC 1 go).toInt ∧ (mxC 1 go).toInt ≤ 60 := by rw [mx_ti, ti1]; split <;> omega
    have hM : up2 (up2 (up2 (stormA α i j) (7 + i) 7 (c - go)) (7 + j) 7 (mxC 1 go)) (7 + j) 0 (α (7 + i) 0) = up2 (up2 (up2 (up2 α (7 + j) 7 (mxC 1 go)) (7 + i) 7 (c - go)) (7 + i) 13 1) (7 + j) 0 (α (7 + i) 0) := by
      congr 1
      rw [hA, up2_cm (up2 (up2 α (7 + j) 7 b') (7 + i) 7 c) (Or.inr (show (13 : Nat) ≠ 7 by decide)), up2_ov, up2_cm (up2 (up2 α (7 + j) 7 b') (7 + i) 7 (c - go)) (Or.inl n1), up2_cm (up2 α (7 + j) 7 b') (Or.inl n1), up2_ov]
    rw [hS, hM]
    have OKM : Ok (up2 (up2 (up2 (up2 α (7 + j) 7 (mxC 1 go)) (7 + i) 7 (c - go)) (7 + i) 13 1) (7 + j) 0 (α (7 + i) 0)) n :=
      Ok.up' (Ok.up' (Ok.up' (H.up (vS7 e6)) α (fun k => (up2_4 ..).symm) (vS7 ⟨by omega, by omega⟩)) α (fun k => by rw [up2_4, up2_4]) (vS13 (Or.inr rfl))) α (fun k => by rw [up2_4, up2_4, up2_4]) (vS0 (H.side i hi))
    refine ⟨Ok_loose OKM i, fun D => Dj_loose (Dj_up (Dj_up (Dj_up (Dj_up D (by decide)) (by decide)) (by decide)) (by decide)) _, Fs_t ?_ (Fs_loose OKM hi)⟩
    exact Fs_t (Fs_t (Fs_t (Fs_s α (by omega) _ _) (Fs_s _ (by omega) _ _)) (Fs_s _ (by omega) _ _)) (Fs_s _ (by omega) _ _)
