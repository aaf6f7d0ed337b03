/-! what a sea keeps: ships afloat off the rocks, ropes held on both sides -/
/-- no ship afloat stands on a rock -/
def Nr (α : Mem) (n : Nat) : Prop := ∀ i, i < n → 0 < α (7 + i) 3 → α 5 (α (7 + i) 1).toNatClampNeg = 0
/-- ropes are held on both sides, by ships of two sides that are afloat and next to each other -/
def Ti (α : Mem) (n : Nat) : Prop := ∀ i j, i < n → j < n → α (7 + i) 12 = J j → α (7 + j) 12 = J i ∧ 0 < α (7 + i) 3 ∧ 0 < α (7 + j) 3 ∧ ¬ α (7 + i) 0 = α (7 + j) 0 ∧ frC α (α (7 + i) 1) (α (7 + j) 1) = 1
def Sg (α : Mem) (n : Nat) : Prop := Ok α n ∧ Dj α n ∧ Nr α n ∧ Ti α n
theorem fr_4 {α α1 : Mem} (h : α1 4 0 = α 4 0) (a b : Int32) : frC α1 a b = frC α a b := by unfold frC rowC colC; rw [h]
theorem Ti_cg {α α' : Mem} {n : Nat} (h8 : n ≤ 8) (T : Ti α n) (h4 : α' 4 0 = α 4 0) (h12 : ∀ i, i < n → α' (7 + i) 12 = α (7 + i) 12) (h : ∀ i, i < n → ¬ α (7 + i) 12 = -1 → α' (7 + i) 0 = α (7 + i) 0 ∧ α' (7 + i) 1 = α (7 + i) 1 ∧ (0 < α (7 + i) 3 → 0 < α' (7 + i) 3)) : Ti α' n := by
  intro i j hi hj e
  rw [h12 i hi] at e
  obtain ⟨t1, t2, t3, t4, t5⟩ := T i j hi hj e
  have ni : ¬ α (7 + i) 12 = -1 := by rw [e]; exact Jm1 (by omega)
  have nj : ¬ α (7 + j) 12 = -1 := by rw [t1]; exact Jm1 (by omega)
  obtain ⟨a1, a2, a3⟩ := h i hi ni
  obtain ⟨b1, b2, b3⟩ := h j hj nj
  exact ⟨by rw [h12 j hj]; exact t1, a3 t2, b3 t3, by rw [a1, b1]; exact t4, by rw [a2, b2, fr_4 h4]; exact t5⟩
theorem Nr_cg {α α' : Mem} {n : Nat} (N : Nr α n) (h5 : α' 5 = α 5) (h : ∀ i, i < n → 0 < α' (7 + i) 3 → 0 < α (7 + i) 3 ∧ α' (7 + i) 1 = α (7 + i) 1) : Nr α' n := by
  intro i hi q
  obtain ⟨a, b⟩ := h i hi q
  rw [h5, b]
  exact N i hi a
/-- sides, places, hulls and ropes are as they were -/
def Kp (α α' : Mem) (n : Nat) : Prop := α' 4 0 = α 4 0 ∧ α' 5 = α 5 ∧ ∀ i, i < n → α' (7 + i) 0 = α (7 + i) 0 ∧ α' (7 + i) 1 = α (7 + i) 1 ∧ α' (7 + i) 3 = α (7 + i) 3 ∧ α' (7 + i) 12 = α (7 + i) 12
theorem Kp_r (α : Mem) (n : Nat) : Kp α α n := ⟨rfl, rfl, fun _ _ => ⟨rfl, rfl, rfl, rfl⟩⟩
theorem Kp_t {a b c : Mem} {n : Nat} (h : Kp a b n) (h2 : Kp b c n) : Kp a c n :=
  ⟨h2.1.trans h.1, h2.2.1.trans h.2.1, fun i hi => ⟨(h2.2.2 i hi).1.trans (h.2.2 i hi).1, (h2.2.2 i hi).2.1.trans (h.2.2 i hi).2.1, (h2.2.2 i hi).2.2.1.trans (h.2.2 i hi).2.2.1, (h2.2.2 i hi).2.2.2.trans (h.2.2 i hi).2.2.2⟩⟩
theorem up2_55 (α : Mem) (i k : Nat) (v : Int32) : up2 α (7 + i) k v 5 = α 5 := up2_ne α (by omega) _ _
theorem Kp_up (α : Mem) (n i : Nat) {k : Nat} (v : Int32) (h0 : k ≠ 0) (h1 : k ≠ 1) (h3 : k ≠ 3) (h12 : k ≠ 12) : Kp α (up2 α (7 + i) k v) n :=
  ⟨up2_4 .., up2_55 .., fun q _ => ⟨by rw [up2_s, if_neg (fun w => h0 w.2.symm)], by rw [up2_s, if_neg (fun w => h1 w.2.symm)], by rw [up2_s, if_neg (fun w => h3 w.2.symm)], by rw [up2_s, if_neg (fun w => h12 w.2.symm)]⟩⟩
theorem Kp_4 (α : Mem) (n : Nat) {k : Nat} (v : Int32) (h0 : k ≠ 0) : Kp α (up2 α 4 k v) n :=
  ⟨by rw [up2_44, if_neg (fun w => h0 w.symm)], up2_ne α (by decide) _ _, fun q _ => ⟨up2_4s .., up2_4s .., up2_4s .., up2_4s ..⟩⟩
theorem Kp_ti {α α' : Mem} {n : Nat} (K : Kp α α' n) (h8 : n ≤ 8) (T : Ti α n) : Ti α' n :=
  Ti_cg h8 T K.1 (fun i hi => (K.2.2 i hi).2.2.2) (fun i hi _ => ⟨(K.2.2 i hi).1, (K.2.2 i hi).2.1, fun q => by rw [(K.2.2 i hi).2.2.1]; exact q⟩)
theorem Kp_nr {α α' : Mem} {n : Nat} (K : Kp α α' n) (N : Nr α n) : Nr α' n :=
  Nr_cg N K.2.1 (fun i hi q => ⟨by rw [← (K.2.2 i hi).2.2.1]; exact q, (K.2.2 i hi).2.1⟩)
theorem Kp_dj {α α' : Mem} {n : Nat} (K : Kp α α' n) (D : Dj α n) : Dj α' n := by
  intro i j hi hj hij h1 h2
  rw [(K.2.2 i hi).2.2.1] at h1
  rw [(K.2.2 j hj).2.2.1] at h2
  rw [(K.2.2 i hi).2.1, (K.2.2 j hj).2.1]
  exact D i j hi hj hij h1 h2
theorem Sg_kp {α α' : Mem} {n : Nat} (S : Sg α n) (K : Kp α α' n) (H : Ok α' n) : Sg α' n := ⟨H, Kp_dj K S.2.1, Kp_nr K S.2.2.1, Kp_ti K S.1.n8 S.2.2.2⟩
theorem Sg_sm {α1 α : Mem} {n : Nat} (s : Sm α1 α n) (S : Sg α n) : Sg α1 n := by
  have h8 := S.1.n8
  refine ⟨Ok_sm s S.1, Dj_sm s S.2.1, fun i hi q => ?_, Ti_cg h8 S.2.2.2 (s.1 0 (by decide)) (fun i hi => s.2.2 i hi 12 (by decide)) (fun i hi _ => ⟨s.2.2 i hi 0 (by decide), s.2.2 i hi 1 (by decide), fun w => by rw [s.2.2 i hi 3 (by decide)]; exact w⟩)⟩
  rw [s.2.2 i hi 3 (by decide)] at q
  rw [s.2.2 i hi 1 (by decide)]
  have hc := S.1.cell i hi
  have hw := S.1.wh
  have : (α (7 + i) 1).toNatClampNeg < 144 := by
    have e := J_of hc.1
    have e2 : (α (7 + i) 1).toNatClampNeg = (α (7 + i) 1).toInt.toNat := rfl
    omega
  rw [s.2.1 _ this]
  exact S.2.2.1 i hi q
theorem Sg_sq {α1 α : Mem} {n : Nat} (s : Sq α α1) (S : Sg α n) : Sg α1 n := Sg_sm (Sm_of S.1.n8 s) S
-- each change
theorem Sg_new (α : Mem) {c r : Int32} (h1 : ¬ c < 4 ∧ ¬ 12 < c) (h2 : ¬ r < 4 ∧ ¬ 12 < r) : Sg (newC α 4 c r) 0 :=
  ⟨Ok_new h1 h2, Dj_0 _, fun i hi => absurd hi (Nat.not_lt_zero i), fun i _ hi => absurd hi (Nat.not_lt_zero i)⟩
theorem up2_5s (α : Mem) (k i : Nat) (v : Int32) : up2 α 5 k v (7 + i) = α (7 + i) := up2_ne α (by omega) _ _
theorem cn_inj {α : Mem} {a b : Int32} (ha : isCellC α 4 a) (hb : isCellC α 4 b) (h : a.toNatClampNeg = b.toNatClampNeg) : a = b := by
  have a0 := ha.1; have b0 := hb.1
  rw [i32_le, ti0] at a0 b0
  rw [← J_of a0, ← J_of b0, h]
theorem Sg_rock {α : Mem} {n : Nat} (S : Sg α n) {c v : Int32} (hc : isCellC α 4 c) (h1 : shipOnF α c n 0 = -1) (hv : v = 0 ∨ v = 1) : Sg (up2 α 5 c.toNatClampNeg v) n := by
  have h8 := S.1.n8
  have hno := shipOn_no n 0 (by omega) h1
  refine ⟨Ok_rock S.1 _ hv, fun i j hi hj hij q1 q2 => ?_, fun i hi q => ?_, Ti_cg h8 S.2.2.2 (by rw [up2_ne _ (by decide)]) (fun i hi => by rw [up2_5s]) (fun i hi _ => ⟨by rw [up2_5s], by rw [up2_5s], fun w => by rw [up2_5s]; exact w⟩)⟩
  · rw [up2_5s] at q1 q2 ⊢
    rw [up2_5s]
    exact S.2.1 i j hi hj hij q1 q2
  · rw [up2_5s] at q ⊢
    have hne : ¬ (α (7 + i) 1).toNatClampNeg = c.toNatClampNeg := fun w => hno i (Nat.zero_le _) (by omega) q (cn_inj (S.1.isC hi) hc w)
    rw [up2_a, if_neg hne]
    exact S.2.2.1 i hi q
theorem Sg_wind {α : Mem} {n : Nat} (S : Sg α n) {e : Nat} (he : e < 6) {s : Int32} (hs : 0 ≤ s.toInt ∧ s.toInt ≤ 3) : Sg (up2 (up2 α 4 2 (J e)) 4 3 s) n :=
  Sg_kp (Sg_kp S (Kp_4 _ _ _ (by decide)) (Ok_wind S.1 he)) (Kp_4 _ _ _ (by decide)) (Ok_strength (Ok_wind S.1 he) hs)
/-- a ship that is held by no rope comes to another place -/
theorem Ti_cell {α : Mem} {n i : Nat} (h8 : n ≤ 8) (T : Ti α n) (h : α (7 + i) 12 = -1) (c : Int32) : Ti (up2 α (7 + i) 1 c) n :=
  Ti_cg h8 T (up2_4 ..) (fun q _ => by rw [up2_s, if_neg (fun w => absurd w.2 (by decide))]) (fun q _ hq => by
    have hne : q ≠ i := fun w => hq (by rw [w]; exact h)
    refine ⟨?_, ?_, fun w => ?_⟩
    · rw [up2_s, if_neg (fun w => hne w.1)]
    · rw [up2_s, if_neg (fun w => hne w.1)]
    · rw [up2_s, if_neg (fun w => hne w.1)]; exact w)
theorem Nr_cell {α : Mem} {n i : Nat} (N : Nr α n) {c : Int32} (h : α 5 c.toNatClampNeg = 0) : Nr (up2 α (7 + i) 1 c) n := by
  intro q hq w
  rw [up2_s, if_neg (fun x => absurd x.2 (by decide))] at w
  rw [up2_55, up2_s]
  by_cases x : q = i
  · rw [if_pos ⟨x, rfl⟩]; exact h
  · rw [if_neg (fun y => x y.1)]; exact N q hq w
theorem Sg_move {α : Mem} {n i : Nat} (S : Sg α n) (hi : i < n) (hm : canMoveC α n i) : Sg (moveC α i) n := by
  have h8 := S.1.n8
  have e : Kp (up2 α (7 + i) 1 (nbC α (α (7 + i) 1) (hdA α (7 + i)))) (moveC α i) n := Kp_t (Kp_up _ n i _ (by decide) (by decide) (by decide) (by decide)) (Kp_up _ n i _ (by decide) (by decide) (by decide) (by decide))
  exact ⟨Ok_move S.1 hi hm, Dj_move S.1 S.2.1 hm, Kp_nr e (Nr_cell S.2.2.1 hm.2.2.2.1), Kp_ti e h8 (Ti_cell h8 S.2.2.2 hm.1.2.2.1 _)⟩
theorem Kp_swing (α : Mem) (n i : Nat) (v : Int32) : Kp α (swingC α (7 + i) v) n := Kp_t (Kp_t (Kp_up _ n i _ (by decide) (by decide) (by decide) (by decide)) (Kp_up _ n i _ (by decide) (by decide) (by decide) (by decide))) (Kp_up _ n i _ (by decide) (by decide) (by decide) (by decide))
theorem Kp_ready (α : Mem) (n i : Nat) : Kp α (readyC α (7 + i)) n := Kp_t (Kp_t (Kp_up _ n i _ (by decide) (by decide) (by decide) (by decide)) (Kp_up _ n i _ (by decide) (by decide) (by decide) (by decide))) (Kp_up _ n i _ (by decide) (by decide) (by decide) (by decide))
theorem Kp_short (α : Mem) (n i : Nat) : Kp α (shortC α (7 + i)) n := Kp_t (Kp_up _ n i _ (by decide) (by decide) (by decide) (by decide)) (Kp_up _ n i _ (by decide) (by decide) (by decide) (by decide))
theorem Sg_swing {α : Mem} {n i : Nat} (S : Sg α n) (hi : i < n) {r : Int32} (hm : canSwingC α i r) : Sg (swingC α (7 + i) (J (hdN (hdA α (7 + i)) r))) n := Sg_kp S (Kp_swing ..) (Ok_swing S.1 hi hm)
theorem Sg_drift {α : Mem} {n i : Nat} (S : Sg α n) (hd : driftsC α n i) : Sg (driftC α i) n :=
  ⟨Ok_drift S.1 hd, Dj_free S.1.n8 S.2.1 hd.2.2.2.2, Nr_cell S.2.2.1 hd.2.2.2.2.2.1, Ti_cell S.1.n8 S.2.2.2 hd.2.2.1 _⟩
theorem Sg_dr1 (n : Nat) : ∀ k i α v, i + k = n → Sg α n → Sg (dr1 n k i α v).1 n := by
  intro k
  induction k with
  | zero => intro i α v _ S; exact S
  | succ k ih =>
    intro i α v hi S
    rw [dr1]
    split
    · next q => exact ih _ _ _ (by omega) (Sg_drift S q)
    · exact ih _ _ _ (by omega) S
theorem Kp_dr2 (n : Nat) : ∀ k i α, Kp α (dr2 k i α) n := by
  intro k
  induction k with
  | zero => intro i α; exact Kp_r _ _
  | succ k ih => intro i α; rw [dr2]; exact Kp_t (Kp_t (Kp_short ..) (Kp_ready ..)) (ih _ _)
theorem Sg_fin {α : Mem} {n : Nat} (S : Sg α n) : Sg (finC α n) n := by
  have S1 := Sg_dr1 n n 0 α 0 (by omega) S
  exact Sg_kp (Sg_kp S1 (Kp_4 _ _ _ (by decide)) (Ok_round S1.1 _)) (Kp_dr2 ..) (Ok_fin S.1)
/-- letting go -/
theorem loose_4 (α : Mem) (i : Nat) : looseC α (7 + i) 4 = α 4 := by
  unfold looseC
  rw [up2_ne _ (by omega)]
  split
  · rfl
  · rw [up2_ne _ (by omega)]
theorem loose_5 (α : Mem) (i : Nat) : looseC α (7 + i) 5 = α 5 := by
  unfold looseC
  rw [up2_ne _ (by omega)]
  split
  · rfl
  · rw [up2_ne _ (by omega)]
theorem loose_o (α : Mem) (i q : Nat) {m : Nat} (h : m ≠ 12) : looseC α (7 + i) (7 + q) m = α (7 + q) m := by
  unfold looseC
  rw [up2_s, if_neg (fun w => h w.2)]
  split
  · rfl
  · rw [up2_s, if_neg (fun w => h w.2)]
theorem loose_12 {α : Mem} {n i q : Nat} (h8 : n ≤ 8) (O : α (7 + i) 12 = -1 ∨ ∃ j, j < n ∧ α (7 + i) 12 = J j) (hq : q < n) : looseC α (7 + i) (7 + q) 12 = if q = i ∨ α (7 + i) 12 = J q then -1 else α (7 + q) 12 := by
  unfold looseC
  rw [up2_s]
  by_cases a : q = i
  · rw [if_pos ⟨a, rfl⟩, if_pos (Or.inl a)]
  · rw [if_neg (fun w => a w.1)]
    rcases O with O | ⟨j, hj, O⟩
    · rw [if_pos O, if_neg (fun w => w.elim a (fun x => Jm1 (show q < 2147483648 by omega) (x.symm.trans O)))]
    · have e : ¬ α (7 + i) 12 = -1 := by rw [O]; exact Jm1 (by omega)
      rw [if_neg e, O, J_tn (by omega), up2_s]
      by_cases b : q = j
      · rw [if_pos ⟨b, rfl⟩, if_pos (Or.inr (by rw [b]))]
      · rw [if_neg (fun w => b w.1), if_neg (fun w => w.elim a (fun x => b (by rw [J_eq (by omega) (by omega)] at x; exact x.symm)))]
theorem Ti_loose {α0 α : Mem} {n i : Nat} (h8 : n ≤ 8) (T : Ti α0 n) (O : α0 (7 + i) 12 = -1 ∨ ∃ j, j < n ∧ α0 (7 + i) 12 = J j) (hi : i < n) (h4 : α 4 0 = α0 4 0) (h12 : ∀ q, q < n → α (7 + q) 12 = α0 (7 + q) 12) (h : ∀ q, q < n → q ≠ i → ¬ α0 (7 + i) 12 = J q → α (7 + q) 0 = α0 (7 + q) 0 ∧ α (7 + q) 1 = α0 (7 + q) 1 ∧ (0 < α0 (7 + q) 3 → 0 < α (7 + q) 3)) : Ti (looseC α (7 + i)) n := by
  have e12 : α (7 + i) 12 = α0 (7 + i) 12 := h12 i hi
  have O' : α (7 + i) 12 = -1 ∨ ∃ j, j < n ∧ α (7 + i) 12 = J j := by rw [e12]; exact O
  intro a b ha hb e
  rw [loose_12 h8 O' ha, e12] at e
  by_cases c : a = i ∨ α0 (7 + i) 12 = J a
  · rw [if_pos c] at e; exact absurd e.symm (Jm1 (by omega))
  · rw [if_neg c, h12 a ha] at e
    obtain ⟨t1, t2, t3, t4, t5⟩ := T a b ha hb e
    have bi_ : b ≠ i := fun w => c (Or.inr (by rw [w] at t1; exact t1))
    have bp : ¬ α0 (7 + i) 12 = J b := fun w => by
      have := (T i b hi hb w).1
      rw [t1, J_eq (by omega) (by omega)] at this
      exact c (Or.inl this)
    obtain ⟨a1, a2, a3⟩ := h a ha (fun w => c (Or.inl w)) (fun w => c (Or.inr w))
    obtain ⟨b1, b2, b3⟩ := h b hb bi_ bp
    refine ⟨?_, ?_, ?_, ?_, ?_⟩
    · rw [loose_12 h8 O' hb, e12, if_neg (fun w => w.elim bi_ bp), h12 b hb]; exact t1
    · rw [loose_o _ _ _ (by decide)]; exact a3 t2
    · rw [loose_o _ _ _ (by decide)]; exact b3 t3
    · rw [loose_o _ _ _ (by decide), loose_o _ _ _ (by decide), a1, b1]; exact t4
    · rw [loose_o _ _ _ (by decide), loose_o _ _ _ (by decide), a2, b2, fr_4 (α := α0) (α1 := looseC α (7 + i)) (by rw [loose_4]; exact h4)]; exact t5
theorem Nr_loose {α : Mem} {n : Nat} (N : Nr α n) (i : Nat) : Nr (looseC α (7 + i)) n :=
  Nr_cg N (loose_5 ..) (fun q _ w => ⟨by rw [loose_o _ _ _ (by decide)] at w; exact w, loose_o _ _ _ (by decide)⟩)
theorem Sg_loose {α : Mem} {n : Nat} (S : Sg α n) {i : Nat} (hi : i < n) : Sg (looseC α (7 + i)) n :=
  ⟨Ok_loose S.1 i, Dj_loose S.2.1 _, Nr_loose S.2.2.1 i, Ti_loose S.1.n8 S.2.2.2 (S.1.pt hi) hi rfl (fun _ _ => rfl) (fun _ _ _ _ => ⟨rfl, rfl, fun w => w⟩)⟩
theorem Sg_tie {α : Mem} {n : Nat} (S : Sg α n) {i j : Nat} (hi : i < n) (hj : j < n) (hij : i ≠ j) (hm : canTieC α i j) : Sg (tieC α i j) n := by
  have h8 := S.1.n8
  obtain ⟨m1, m2, m3, m4, m5, m6⟩ := hm
  have r : ∀ q m, m ≠ 12 → tieC α i j (7 + q) m = α (7 + q) m := fun q m hm => by
    unfold tieC; rw [up2_s, if_neg (fun w => hm w.2), up2_s, if_neg (fun w => hm w.2)]
  have r12 : ∀ q, tieC α i j (7 + q) 12 = if q = j then J i else if q = i then J j else α (7 + q) 12 := fun q => by
    unfold tieC; rw [up2_s, up2_s]
    by_cases a : q = j
    · rw [if_pos ⟨a, rfl⟩, if_pos a]
    · rw [if_neg (fun w => a w.1), if_neg a]
      by_cases b : q = i
      · rw [if_pos ⟨b, rfl⟩, if_pos b]
      · rw [if_neg (fun w => b w.1), if_neg b]
  have r4 : tieC α i j 4 = α 4 := by unfold tieC; rw [up2_ne _ (by omega), up2_ne _ (by omega)]
  have r5 : tieC α i j 5 = α 5 := by unfold tieC; rw [up2_ne _ (by omega), up2_ne _ (by omega)]
  have sy : frC α (α (7 + j) 1) (α (7 + i) 1) = 1 := by rw [fr_sym S.1 (S.1.isC hj) (S.1.isC hi)]; exact m6
  refine ⟨Ok_tie S.1 hi hj hij, fun a b ha hb hab q1 q2 => ?_, Nr_cg S.2.2.1 r5 (fun q _ w => ⟨by rw [r _ _ (by decide)] at w; exact w, r _ _ (by decide)⟩), fun a b ha hb e => ?_⟩
  · rw [r _ _ (by decide)] at q1 q2 ⊢
    rw [r _ _ (by decide)]
    exact S.2.1 a b ha hb hab q1 q2
  · rw [r12] at e
    rw [r12, r _ _ (by decide), r _ _ (by decide), r _ _ (by decide), r _ _ (by decide), r _ _ (by decide), r _ _ (by decide), fr_4 (show tieC α i j 4 0 = α 4 0 by rw [r4])]
    by_cases aj : a = j
    · rw [if_pos aj, J_eq (by omega) (by omega)] at e
      subst aj; subst e
      rw [if_neg hij, if_pos rfl]
      exact ⟨rfl, m2, m1, fun w => m3 w.symm, sy⟩
    · rw [if_neg aj] at e
      by_cases ai : a = i
      · rw [if_pos ai, J_eq (by omega) (by omega)] at e
        subst ai; subst e
        rw [if_pos rfl]
        exact ⟨rfl, m1, m2, m3, m6⟩
      · rw [if_neg ai] at e
        obtain ⟨t1, t2, t3, t4, t5⟩ := S.2.2.2 a b ha hb e
        have bj : b ≠ j := fun w => by rw [w, m5] at t1; exact Jm1 (show a < 2147483648 by omega) t1.symm
        have bi_ : b ≠ i := fun w => by rw [w, m4] at t1; exact Jm1 (show a < 2147483648 by omega) t1.symm
        rw [if_neg bj, if_neg bi_]
        exact ⟨t1, t2, t3, t4, t5⟩
theorem Kp_hitG (α : Mem) (n i j : Nat) (f : Int32) : Kp α (hitG α i j f) n := by
  unfold hitG
  split
  · exact Kp_up _ n j _ (by decide) (by decide) (by decide) (by decide)
  · split
    · exact Kp_up _ n j _ (by decide) (by decide) (by decide) (by decide)
    · exact Kp_r _ _
theorem hull_v {α : Mem} {n j : Nat} (H : Ok α n) (hj : j < n) {f : Int32} (hf : 0 ≤ f.toInt) (h : 0 < α (7 + j) 3 - hitL α j f) : 0 < α (7 + j) 3 := by
  have hl := hitL_bd H hj hf
  have hh := H.hull j hj
  rw [i32_lt, ti0] at h ⊢
  rw [sub_ti (by omega) (by omega)] at h
  omega
theorem hit_nt {α : Mem} {n i j : Nat} (S : Sg α n) (hj : j < n) {f : Int32} (hf : 0 ≤ f.toInt) : Nr (hitC α i j f) n ∧ Ti (hitC α i j f) n := by
  have h8 := S.1.n8
  have K := Kp_hitG α n i j f
  have r : ∀ q m, m ≠ 3 → hitH α i j f (7 + q) m = hitG α i j f (7 + q) m := fun q m hm => by unfold hitH; rw [up2_s, if_neg (fun w => hm w.2)]
  have r3 : ∀ q, hitH α i j f (7 + q) 3 = if q = j then α (7 + j) 3 - hitL α j f else hitG α i j f (7 + q) 3 := fun q => by
    unfold hitH; rw [up2_s]
    by_cases a : q = j
    · rw [if_pos ⟨a, rfl⟩, if_pos a]
    · rw [if_neg (fun w => a w.1), if_neg a]
  have r4 : hitH α i j f 4 0 = α 4 0 := by unfold hitH; rw [up2_4]; exact K.1
  have r5 : hitH α i j f 5 = α 5 := by unfold hitH; rw [up2_55]; exact K.2.1
  have N : Nr (hitH α i j f) n := Nr_cg S.2.2.1 r5 (fun q hq w => by
    rw [r3] at w
    rw [r _ _ (by decide), (K.2.2 q hq).2.1]
    by_cases a : q = j
    · rw [if_pos a] at w; subst a; exact ⟨hull_v S.1 hq hf w, rfl⟩
    · rw [if_neg a, (K.2.2 q hq).2.2.1] at w; exact ⟨w, rfl⟩)
  unfold hitC
  by_cases w : 0 < α (7 + j) 3 - hitL α j f
  · rw [if_pos w]
    refine ⟨N, Ti_cg h8 S.2.2.2 r4 (fun q hq => by rw [r _ _ (by decide)]; exact (K.2.2 q hq).2.2.2) (fun q hq _ => ⟨by rw [r _ _ (by decide)]; exact (K.2.2 q hq).1, by rw [r _ _ (by decide)]; exact (K.2.2 q hq).2.1, fun u => ?_⟩)⟩
    rw [r3]
    by_cases a : q = j
    · rw [if_pos a]; exact w
    · rw [if_neg a, (K.2.2 q hq).2.2.1]; exact u
  · rw [if_neg w]
    refine ⟨Nr_loose N j, Ti_loose h8 S.2.2.2 (S.1.pt hj) hj r4 (fun q hq => by rw [r _ _ (by decide)]; exact (K.2.2 q hq).2.2.2) (fun q hq hne _ => ⟨by rw [r _ _ (by decide)]; exact (K.2.2 q hq).1, by rw [r _ _ (by decide)]; exact (K.2.2 q hq).2.1, fun u => ?_⟩)⟩
    rw [r3, if_neg hne, (K.2.2 q hq).2.2.1]; exact u
theorem Kp_wait (α : Mem) (n i : Nat) (r : Int32) : Kp α (up2 α (7 + i) (if r = 0 then 10 else 11) (waitC α (7 + i))) n := by
  split
  · exact Kp_up _ n i _ (by decide) (by decide) (by decide) (by decide)
  · exact Kp_up _ n i _ (by decide) (by decide) (by decide) (by decide)
theorem Sg_shot {α : Mem} {n i j : Nat} (S : Sg α n) (hi : i < n) (hj : j < n) (g aim : Int32) : Sg (shotC α n i g j aim).1 n := by
  have hf := (force_bd S.1 hi hj g).1
  have O := Ok_shot S.1 hi hj g aim hf
  have S0 : Sg (up2 α (7 + i) (if g = 0 then 10 else 11) (waitC α (7 + i))) n := Sg_kp S (Kp_wait ..) (Ok_wait S.1 i g)
  refine ⟨O.1, O.2.1 S.2.1, ?_⟩
  unfold shotC
  dsimp only
  by_cases a0 : aim = 0
  · rw [if_pos a0]; exact hit_nt S0 hj hf
  · rw [if_neg a0]
    by_cases a1 : aim = 1
    · rw [if_pos a1]
      have K := Kp_up (up2 α (7 + i) (if g = 0 then 10 else 11) (waitC α (7 + i))) n j (k := 4) (up2 α (7 + i) (if g = 0 then 10 else 11) (waitC α (7 + i)) (7 + j) 4 - mnC (up2 α (7 + i) (if g = 0 then 10 else 11) (waitC α (7 + i)) (7 + j) 4) (forceC α n i g j / 6)) (by decide) (by decide) (by decide) (by decide)
      exact ⟨Kp_nr K S0.2.2.1, Kp_ti K S.1.n8 S0.2.2.2⟩
    · rw [if_neg a1]
      have K := Kp_up (up2 α (7 + i) (if g = 0 then 10 else 11) (waitC α (7 + i))) n j (k := 7) (up2 α (7 + i) (if g = 0 then 10 else 11) (waitC α (7 + i)) (7 + j) 7 - mxC 0 (mnC (up2 α (7 + i) (if g = 0 then 10 else 11) (waitC α (7 + i)) (7 + j) 7 - 1) (forceC α n i g j / 5))) (by decide) (by decide) (by decide) (by decide)
      exact ⟨Kp_nr K S0.2.2.1, Kp_ti K S.1.n8 S0.2.2.2⟩
theorem Kp_stormA (α : Mem) (n i j : Nat) : Kp α (stormA α i j) n := Kp_t (Kp_t (Kp_up _ n j _ (by decide) (by decide) (by decide) (by decide)) (Kp_up _ n i _ (by decide) (by decide) (by decide) (by decide))) (Kp_up _ n i _ (by decide) (by decide) (by decide) (by decide))
theorem Sg_storm {α : Mem} {n i j : Nat} (S : Sg α n) (hi : i < n) (hj : j < n) (hij : j ≠ i) (hp : α (7 + i) 12 = J j) : Sg (stormC α i j) n := by
  have h8 := S.1.n8
  have O := storm_end S.1 hi hj hij
  refine ⟨O.1, O.2.1 S.2.1, ?_⟩
  have K := Kp_stormA α n i j
  unfold stormC
  by_cases w : 0 < α (7 + j) 7 - (α (7 + i) 7 + 2) / 3
  · rw [if_pos w]; exact ⟨Kp_nr K S.2.2.1, Kp_ti K h8 S.2.2.2⟩
  · rw [if_neg w]
    unfold seizeC
    dsimp only
    generalize mnC ((stormA α i j (7 + i) 7 + 3) / 4) (stormA α i j (7 + i) 7 - 1) = go
    have K2 : Kp α (up2 (up2 (stormA α i j) (7 + i) 7 (stormA α i j (7 + i) 7 - go)) (7 + j) 7 (mxC 1 go)) n := Kp_t (Kp_t K (Kp_up _ n i _ (by decide) (by decide) (by decide) (by decide))) (Kp_up _ n j _ (by decide) (by decide) (by decide) (by decide))
    generalize (up2 (up2 (stormA α i j) (7 + i) 7 (stormA α i j (7 + i) 7 - go)) (7 + j) 7 (mxC 1 go)) = X at K2 ⊢
    generalize stormA α i j (7 + i) 0 = sd
    have r : ∀ q m, m ≠ 0 → up2 X (7 + j) 0 sd (7 + q) m = X (7 + q) m := fun q m hm => by rw [up2_s, if_neg (fun w => hm w.2)]
    refine ⟨Nr_loose (Nr_cg S.2.2.1 (by rw [up2_55]; exact K2.2.1) (fun q hq u => ?_)) i, Ti_loose h8 S.2.2.2 (S.1.pt hi) hi (by rw [up2_4]; exact K2.1) (fun q hq => by rw [r _ _ (by decide)]; exact (K2.2.2 q hq).2.2.2) (fun q hq hne hnp => ⟨?_, by rw [r _ _ (by decide)]; exact (K2.2.2 q hq).2.1, fun u => by rw [r _ _ (by decide), (K2.2.2 q hq).2.2.1]; exact u⟩)⟩
    · rw [r _ _ (by decide), (K2.2.2 q hq).2.2.1] at u
      rw [r _ _ (by decide)]
      exact ⟨u, (K2.2.2 q hq).2.1⟩
    · rw [up2_s, if_neg (fun w => hnp (by rw [hp, w.1]))]
      exact (K2.2.2 q hq).1
theorem Sg_add {α : Mem} {n : Nat} (S : Sg α n) (hn : n < 8) {x1 x2 x3 x4 x5 x6 : Int32} (hg : givC x1 x3 x4 x5 x6) (hf : freeC α n x2) : Sg (addC α n x1 x2 x3 x4 x5 x6) (n + 1) := by
  have OM := Ok_addM S.1 hn hg hf.1
  have DM := Dj_addM S.2.1 hn (x1 := x1) (x3 := x3) (x4 := x4) (x5 := x5) (x6 := x6) hf.2.2
  have SM : Sg (addM α n x1 x2 x3 x4 x5 x6) (n + 1) := by
    refine ⟨OM, DM, fun i hi q => ?_, fun i j hi hj e => ?_⟩
    · rw [addM_5]
      by_cases a : i = n
      · subst a; rw [addM_n, launch_1]; exact hf.2.1
      · rw [addM_o _ _ _ _ _ _ _ _ a] at q ⊢; exact S.2.2.1 i (by omega) q
    · by_cases a : i = n
      · subst a; rw [addM_n, launch_12] at e; exact absurd e.symm (Jm1 (by omega))
      · rw [addM_o _ _ _ _ _ _ _ _ a] at e ⊢
        have b : j ≠ n := fun w => by
          rcases S.1.part i (by omega) with p | ⟨k, p1, p2, p3⟩
          · rw [p] at e; exact absurd e.symm (Jm1 (by omega))
          · rw [p3, J_eq (by omega) (by omega)] at e; omega
        rw [addM_o _ _ _ _ _ _ _ _ b, fr_4 (addM_4 _ _ _ _ _ _ _ _ (by decide))]
        exact S.2.2.2 i j (by omega) (by omega) e
  exact Sg_kp SM (Kp_ready ..) (Ok_ready OM (by omega))
