/-! the invariant of a run of calls; saving keeps it -/
/-- the same sea, as far as it has numbers -/
def Sm (α1 α : Mem) (n : Nat) : Prop := (∀ k, k < 6 → α1 4 k = α 4 k) ∧ (∀ c, c < 144 → α1 5 c = α 5 c) ∧ ∀ i, i < n → ∀ k, k < 15 → α1 (7 + i) k = α (7 + i) k
theorem Sm_of {α1 α : Mem} {n : Nat} (h8 : n ≤ 8) (h : ∀ j, 4 ≤ j → j < 15 → α1 j = α j) : Sm α1 α n :=
  ⟨fun k _ => by rw [h 4 (by omega) (by omega)], fun c _ => by rw [h 5 (by omega) (by omega)], fun i hi k _ => by rw [h (7 + i) (by omega) (by omega)]⟩
theorem Sm_r (α : Mem) (n : Nat) : Sm α α n := ⟨fun _ _ => rfl, fun _ _ => rfl, fun _ _ _ _ => rfl⟩
theorem Sm_t {a b c : Mem} {n : Nat} (h : Sm a b n) (h2 : Sm b c n) : Sm a c n :=
  ⟨fun k q => (h.1 k q).trans (h2.1 k q), fun k q => (h.2.1 k q).trans (h2.2.1 k q), fun i hi k q => (h.2.2 i hi k q).trans (h2.2.2 i hi k q)⟩
theorem Ok_sm {α1 α : Mem} {n : Nat} (s : Sm α1 α n) (H : Ok α n) : Ok α1 n := by
  have a0 := s.1 0 (by decide); have a1 := s.1 1 (by decide); have a2 := s.1 2 (by decide); have a3 := s.1 3 (by decide); have a5 := s.1 5 (by decide)
  unfold Ok
  rw [a0, a1, a2, a3, a5]
  refine ⟨H.cols, H.rows, H.wd, H.ws, H.n8, H.hn, fun c hc => by rw [s.2.1 c hc]; exact H.rk c hc, fun i hi => by rw [s.2.2 i hi 0 (by decide)]; exact H.side i hi, fun i hi => by rw [s.2.2 i hi 1 (by decide)]; exact H.cell i hi, fun i hi => by rw [s.2.2 i hi 2 (by decide)]; exact H.head i hi, fun i hi => by rw [s.2.2 i hi 3 (by decide)]; exact H.hull i hi, fun i hi => by rw [s.2.2 i hi 4 (by decide)]; exact H.sails i hi, fun i hi => by rw [s.2.2 i hi 5 (by decide)]; exact H.gl i hi, fun i hi => by rw [s.2.2 i hi 6 (by decide)]; exact H.gr i hi, fun i hi => by rw [s.2.2 i hi 7 (by decide)]; exact H.crew i hi, fun i hi => by rw [s.2.2 i hi 8 (by decide)]; exact H.first i hi, fun i hi => by rw [s.2.2 i hi 9 (by decide)]; exact H.pts i hi, fun i hi => by rw [s.2.2 i hi 10 (by decide)]; exact H.wl i hi, fun i hi => by rw [s.2.2 i hi 11 (by decide)]; exact H.wr i hi, fun i hi => by rw [s.2.2 i hi 12 (by decide)]; exact H.part i hi, fun i hi => by rw [s.2.2 i hi 13 (by decide)]; exact H.bo i hi, fun i hi => by rw [s.2.2 i hi 14 (by decide)]; exact H.way i hi⟩
theorem Dj_sm {α1 α : Mem} {n : Nat} (s : Sm α1 α n) (D : Dj α n) : Dj α1 n := by
  intro i j hi hj hij h1 h2
  rw [s.2.2 i hi 3 (by decide)] at h1
  rw [s.2.2 j hj 3 (by decide)] at h2
  rw [s.2.2 i hi 1 (by decide), s.2.2 j hj 1 (by decide)]
  exact D i j hi hj hij h1 h2
theorem slM_lt : ∀ k, k < 15 → slM k < 15 := by decide
/-- the sea at B, as if it were the present one -/
def shA (α : Mem) (B : Nat) : Mem := fun j => α (B + (j - 4))
/-- only the present sea and the chart have changed -/
def Fs (α α' : Mem) : Prop := ∀ j, ¬ (4 ≤ j ∧ j < 15) → ¬ (64 ≤ j ∧ j < 68) → α' j = α j
theorem Fs_r (α : Mem) : Fs α α := fun _ _ _ => rfl
theorem Fs_t {a b c : Mem} (h : Fs a b) (h2 : Fs b c) : Fs a c := fun j q w => (h2 j q w).trans (h j q w)
theorem Fs_up (α : Mem) {a : Nat} (h : 4 ≤ a ∧ a < 15) (k : Nat) (v : Int32) : Fs α (up2 α a k v) := fun j q _ => up2_ne _ (fun w => q (by omega)) _ _
theorem Fs_s (α : Mem) {i : Nat} (h : i < 8) (k : Nat) (v : Int32) : Fs α (up2 α (7 + i) k v) := Fs_up α (by omega) k v
theorem Fs_upA (α : Mem) {a : Nat} (h : 4 ≤ a ∧ a < 15) (f : Nat → Int32) : Fs α (upA α a f) := fun j q _ => upA_ne _ (fun w => q (by omega)) _
theorem sea_lt {B : Nat} (h : isSea B) (h4 : B ≠ 4) : 17 ≤ B ∧ B ≤ 50 := by unfold isSea at h; omega
theorem rot_inj {π : Nat → Nat} (h : ∀ i j, i < 4 → j < 4 → π i = π j → i = j) : ∀ i j, i < 4 → j < 4 → rotN π i = rotN π j → i = j := by
  have e : ∀ i, i < 4 → rotN π i = π ((i + 1) % 4) := by
    intro i hi
    have : i = 0 ∨ i = 1 ∨ i = 2 ∨ i = 3 := by omega
    rcases this with rfl | rfl | rfl | rfl <;> rfl
  intro i j hi hj q
  rw [e i hi, e j hj] at q
  have := h _ _ (Nat.mod_lt _ (by omega)) (Nat.mod_lt _ (by omega)) q
  omega
theorem save_k {k : Nat} (h : k ≤ 4) : saveK k < 4 ∧ saveK k ≤ k := by unfold saveK; split <;> omega
theorem save_p {π : Nat → Nat} (h : seas π) (k : Nat) : seas (saveP π k) := by unfold saveP; split; exact seas_rot h; exact h
theorem save_o {α : Mem} {π : Nat → Nat} {n k j : Nat} (h8 : n ≤ 8) (hj : j ≠ 15) (h : j < saveP π k (saveK k) ∨ saveP π k (saveK k) + 10 < j) : saveC α π n k j = α j := by
  unfold saveC
  rw [up2_ne _ hj, seaW_o _ h8 h]
  unfold saveA
  split
  · rw [up2_ne _ hj]
  · rfl
theorem save_sq {α : Mem} {π : Nat → Nat} {n k : Nat} (hp : seas π) (h4 : k ≤ 4) (h8 : n ≤ 8) {j : Nat} (h : 4 ≤ j) (h' : j < 15) : saveC α π n k j = α j := by
  have hs := save_p hp k (saveK k) (save_k h4).1
  have hb := sea_lt hs.1 hs.2
  exact save_o h8 (by omega) (Or.inl (by omega))
