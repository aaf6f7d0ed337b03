theorem cnt_nb (p : Nat → Prop) [DecidablePred p] : ∀ k i (v : Int32), (∀ y, i ≤ y → y < i + k → ¬ p y) → cntF p k i v = v := by
  intro k
  induction k with
  | zero => intro i v _; rfl
  | succ k ih => intro i v h; rw [cntF, if_neg (h i (by omega) (by omega)), ih _ _ (fun y h1 h2 => h y (by omega) (by omega))]
theorem cnt_cut (p : Nat → Prop) [DecidablePred p] {N : Nat} (hN : N ≤ 144) (h : ∀ x, N ≤ x → x < 144 → ¬ p x) : cntF p 144 0 0 = cntF p N 0 0 := by
  rw [show (144 : Nat) = N + (144 - N) by omega, cnt_app, cnt_nb p _ _ _ (fun y h1 h2 => h y (by omega) (by omega))]
theorem Vd_lt {α : Mem} {n : Nat} (H : Ok α n) {pt : Nat → Int32} (V : Vd α pt) {s : Nat} (hs : s < 1728) (hp : ¬ pt s = -1) : s < 12 * szN α := by
  obtain ⟨k, hk, e⟩ := (cell_lt H).mp (V s hs hp)
  have := H.sz.2
  rw [J_eq (by omega) (by omega)] at e
  omega
theorem Vd_mx {α : Mem} {n : Nat} (H : Ok α n) {pt : Nat → Int32} (V : Vd α pt) {x : Nat} (hx : szN α ≤ x) (hx2 : x < 144) : mxP pt x = -1 := by
  have h : ∀ b, b < 12 → pt (12 * x + b) = -1 := fun b hb => by
    by_cases q : pt (12 * x + b) = -1
    · exact q
    · have := Vd_lt H V (show 12 * x + b < 1728 by omega) q
      omega
  exact mx_eq (by decide) (fun b hb => by rw [h b hb, tim1]; decide) (Or.inl rfl)
theorem Vd_0 {α : Mem} {n : Nat} (H : Ok α n) {i : Nat} (hi : i < n) : Vd α (pts0 α i) := by
  obtain ⟨c1, c2⟩ := H.clJ hi
  obtain ⟨w1, w2⟩ := H.wyJ hi
  have hd := H.hdJ hi
  intro t ht hp
  unfold pts0 at hp
  rw [upt_at] at hp
  split at hp
  · next w =>
    rw [← w.2, show (12 * (α (7 + i) 1).toNatClampNeg + (2 * hdA α (7 + i) + (α (7 + i) 14).toNatClampNeg)) / 12 = (α (7 + i) 1).toNatClampNeg by have := hd.1; omega, ← c1]
    exact H.isC hi
  · exact absurd rfl hp
theorem Gd_0 {α : Mem} {n : Nat} (H : Ok α n) {i : Nat} (hi : i < n) : Gd (pts0 α i) (α (7 + i) 9) := Gd_upt (fun t _ => Or.inl rfl) _
section S69
variable {z : Zr} {α β γ : Mem} {π : Nat → Nat} {η : Int64} {o : Nat → Int64} {od : Nat → UInt64} {n k : Nat}
end S69
