/-! the model: boarding; a ship that is given; rocks; what is asked for -/
theorem mx1 (x : Int32) : mxC 1 x = if x ≤ 1 then 1 else x := by
  rw [i32_eq, mx_ti, ti1]
  split
  · next h => rw [if_neg (by rw [i32_le, ti1]; omega)]
  · next h => rw [if_pos (by rw [i32_le, ti1]; omega)]; rfl
theorem J126 : (126 : Int32) = J 126 := rfl
def fndF (p : Nat → Prop) [DecidablePred p] : Nat → Nat → Int32 → Int32
  | 0, _, w => w
  | k + 1, c, w => fndF p k (c + 1) (if p c then J c else w)
theorem fnd_last (p : Nat → Prop) [DecidablePred p] : ∀ k c, fndF p k c (lastF p c) = lastF p (c + k) := by
  intro k
  induction k with
  | zero => intro c; rfl
  | succ k ih =>
    intro c
    have e : (if p c then J c else lastF p c) = lastF p (c + 1) := rfl
    rw [fndF, e, ih, show c + 1 + k = c + (k + 1) by omega]
theorem last_none (p : Nat → Prop) [DecidablePred p] {N : Nat} (h : ∀ c, N ≤ c → ¬ p c) : ∀ k, lastF p (N + k) = lastF p N := by
  intro k
  induction k with
  | zero => rfl
  | succ k ih => rw [show N + (k + 1) = N + k + 1 by omega, lastF, if_neg (h _ (by omega)), ih]
theorem cnt_app (p : Nat → Prop) [DecidablePred p] : ∀ a b i v, cntF p (a + b) i v = cntF p b (i + a) (cntF p a i v) := by
  intro a
  induction a with
  | zero => intro b i v; rw [Nat.zero_add]; rfl
  | succ a ih => intro b i v; rw [show a + 1 + b = a + b + 1 by omega, cntF, ih, cntF, show i + 1 + a = i + (a + 1) by omega]
theorem cnt_none (p : Nat → Prop) [DecidablePred p] : ∀ k i v, (∀ c, i ≤ c → ¬ p c) → cntF p k i v = v := by
  intro k
  induction k with
  | zero => intro i v _; rfl
  | succ k ih => intro i v h; rw [cntF, if_neg (h i (Nat.le_refl i)), ih _ _ (fun c hc => h c (by omega))]
def szN (α : Mem) : Nat := (α 4 0 * α 4 1).toNatClampNeg
theorem Ok.sz {α : Mem} {n : Nat} (H : Ok α n) : α 4 0 * α 4 1 = J (szN α) ∧ szN α ≤ 144 := by
  have hw := H.wh
  have e := J_of (c := α 4 0 * α 4 1) (by omega)
  refine ⟨e.symm, ?_⟩
  unfold szN Int32.toNatClampNeg
  omega
theorem rock_lt {α : Mem} {n : Nat} (H : Ok α n) {c : Nat} (hc : c < szN α) : isCellC α 4 (J c) := by
  have hs := H.sz
  refine ⟨?_, ?_, ?_⟩
  · rw [J0, J_le (by omega) (by omega)]; omega
  · rw [hs.1, J_lt (by omega) (by omega)]; exact hc
  · rw [show (144 : Int32) = J 144 from rfl, J_lt (by omega) (by omega)]; omega
theorem cell_lt {α : Mem} {n : Nat} (H : Ok α n) {c : Int32} : isCellC α 4 c ↔ ∃ k, k < szN α ∧ c = J k := by
  have hs := H.sz
  constructor
  · intro h
    obtain ⟨k, hk, rfl⟩ := cell_J H h
    have h2 := h.2.1
    rw [hs.1, J_lt (by omega) (by omega)] at h2
    exact ⟨k, h2, rfl⟩
  · rintro ⟨k, hk, rfl⟩
    exact rock_lt H hk
section S51
variable {z : Zr} {α β γ : Mem} {π : Nat → Nat} {η : Int64} {o : Nat → Int64} {od : Nat → UInt64} {n k : Nat}
abbrev givC (side heading hull guns crew : Int32) : Prop := (¬ side < 0 ∧ ¬ 1 < side) ∧ (¬ heading < 0 ∧ ¬ 5 < heading) ∧ (¬ hull < 1 ∧ ¬ 60 < hull) ∧ (¬ guns < 0 ∧ ¬ 12 < guns) ∧ (¬ crew < 1 ∧ ¬ 60 < crew)
theorem cnt_rock (H : Ok α n) : cntF (fun c => rockC α (J c)) 144 0 0 = cntF (fun c => ¬ α 5 c = 0) (szN α) 0 0 := by
  have hs := H.sz
  have h1 : ∀ k i v, i + k = 144 → szN α ≤ i → cntF (fun c => rockC α (J c)) k i v = v := by
    intro k
    induction k with
    | zero => intro i v _ _; rfl
    | succ k ih =>
      intro i v hi hz
      rw [cntF, if_neg, ih _ _ (by omega) (by omega)]
      intro w
      obtain ⟨m, hm, e⟩ := (cell_lt H).mp w.1
      rw [J_eq (by omega) (by omega)] at e
      omega
  have h2 : ∀ k i v, i + k = szN α → cntF (fun c => rockC α (J c)) k i v = cntF (fun c => ¬ α 5 c = 0) k i v := by
    intro k
    induction k with
    | zero => intro i v _; rfl
    | succ k ih =>
      intro i v hi
      have e : rockC α (J i) ↔ ¬ α 5 i = 0 := by
        constructor
        · intro w; have := w.2; rw [J_tn (by omega)] at this; exact this
        · intro w; exact ⟨rock_lt H (by omega), by rw [J_tn (by omega)]; exact w⟩
      rw [cntF, cntF, ih _ _ (by omega)]
      by_cases q : α 5 i = 0
      · rw [if_neg (fun w => e.mp w q), if_neg (fun w => w q)]
      · rw [if_pos (e.mpr q), if_pos q]
  rw [show (144 : Nat) = szN α + (144 - szN α) by omega, cnt_app, Nat.zero_add, h1 _ _ _ (by omega) (Nat.le_refl _), h2 _ _ _ (by omega)]
theorem last_rock (H : Ok α n) : lastF (fun c => rockC α (J c)) 144 = fndF (fun c => ¬ α 5 c = 0) (szN α) 0 (-1) := by
  have hs := H.sz
  have h1 : ∀ k, szN α + k ≤ 144 → lastF (fun c => rockC α (J c)) (szN α + k) = lastF (fun c => rockC α (J c)) (szN α) := by
    intro k
    induction k with
    | zero => intro _; rfl
    | succ k ih =>
      intro hk
      rw [show szN α + (k + 1) = szN α + k + 1 by omega, lastF, if_neg, ih (by omega)]
      intro w
      obtain ⟨m, hm, e⟩ := (cell_lt H).mp w.1
      rw [J_eq (by omega) (by omega)] at e
      omega
  have h2 : ∀ k, k ≤ szN α → lastF (fun c => rockC α (J c)) k = lastF (fun c => ¬ α 5 c = 0) k := by
    intro k
    induction k with
    | zero => intro _; rfl
    | succ k ih =>
      intro hk
      have e : rockC α (J k) ↔ ¬ α 5 k = 0 := by
        constructor
        · intro w; have := w.2; rw [J_tn (by omega)] at this; exact this
        · intro w; exact ⟨rock_lt H (by omega), by rw [J_tn (by omega)]; exact w⟩
      rw [lastF, lastF, ih (by omega)]
      by_cases q : α 5 k = 0
      · rw [if_neg (fun w => e.mp w q), if_neg (fun w => w q)]
      · rw [if_pos (e.mpr q), if_pos q]
  have h3 := fnd_last (fun c => ¬ α 5 c = 0) (szN α) 0
  rw [Nat.zero_add] at h3
  have h4 : lastF (fun c => ¬ α 5 c = 0) 0 = -1 := rfl
  rw [h4] at h3
  rw [h3, ← h2 _ (Nat.le_refl _), ← h1 (144 - szN α) (by omega), show szN α + (144 - szN α) = 144 by omega]
end S51
