/-! the invariant of a run of calls; saving keeps it -/
/-- the same sea, as far as it has numbers -/
def Sm (α1 α : Mem) (n : Nat) : Prop := (∀ k, k < 6 → α1 4 k = α 4 k) ∧ (∀ c, c < 144 → α1 5 c = α 5 c) ∧ ∀ i, i < n → ∀ k, k < 15 → α1 (7 + i) k = α (7 + i) k
theorem Sm_of {α1 α : Mem} {n : Nat} (h8 : n ≤ 8) (h : ∀ j, 4 ≤ j → j < 15 → α1 j = α j) : Sm α1 α n :=
  ⟨fun k _ => by rw [h 4 (by omega) (by omega)], fun c _ => by rw [h 5 (by omega) (by omega)], fun i hi k _ => by rw [h (7 + i) (by omega) (by omega)]⟩
theorem Sm_r (α : Mem) (n : Nat) : Sm α α n := ⟨fun _ _ => rfl, fun _ _ => rfl, fun _ _ _ _ => rfl⟩
theorem Sm_t {a b c : Mem} {n : Nat} (h : Sm a b n) (h2 : Sm b c n) : Sm a c n :=
  ⟨fun k q => (h.1 k q).trans (h2.1 k q), fun k q => (h.2.1 k q).trans (h2.2.1 k q), fun i hi k q => (h.2.2 i hi k q).trans (h2.2.2 i hi k q)⟩
theorem Ok_sm {α1 α : Mem} {n : Nat} (s : Sm α1 α n) (H : Ok α n) : Ok α1 n := by
  have a0 := s.1 0 (by decide); have a1 := s.1 1 (by decide); have a2 := s.1 2 (by decide); have a3 := s.1 3 (by decide); have a5 := s.1 5 (by decide)
  unfold Ok
  rw [a0, a1, a2, a3, a5]
  refine ⟨H.cols, H.rows, H.wd, H.ws, H.n8, H.hn, fun c hc => by rw [s.2.1 c hc]; exact H.rk c hc, fun i hi => by rw [s.2.2 i hi 0 (by decide)]; exact H.side i hi, fun i hi => by rw [s.2.2 i hi 1 (by decide)]; exact H.cell i hi, fun i hi => by rw [s.2.2 i hi 2 (by decide)]; exact H.head i hi, fun i hi => by rw [s.2.2 i hi 3 (by decide)]; exact H.hull i hi, fun i hi => by rw [s.2.2 i hi 4 (by decide)]; exact H.sails i hi, fun i hi => by rw [s.2.2 i hi 5 (by decide)]; exact H.gl i hi, fun i hi => by rw [s.2.2 i hi 6 (by decide)]; exact H.gr i hi, fun i hi => by rw [s.2.2 i hi 7 (by decide)]; exact H.crew i hi, fun i hi => by rw [s.2.2 i hi 8 (by decide)]; exact H.first i hi, fun i hi => by rw [s.2.2 i hi 9 (by decide)]; exact H.pts i hi, fun i hi => by rw [s.2.2 i hi 10 (by decide)]; exact H.wl i hi, fun i hi => by rw [s.2.2 i hi 11 (by decide)]; exact H.wr i hi, fun i hi => by rw [s.2.2 i hi 12 (by decide)]; exact H.part i hi, fun i hi => by rw [s.2.2 i hi 13 (by decide)]; exact H.bo i hi, fun i hi => by rw [s.2.2 i hi 14 (by decide)]; exact H.way i hi⟩
theorem Dj_sm {α1 α : Mem} {n : Nat} (s : Sm α1 α n) (D : Dj α n) : Dj α1 n := by
  intro i j hi hj hij h1 h2
  rw [s.2.2 i hi 3 (by decide)] at h1
  rw [s.2.2 j hj 3 (by decide)] at h2
  rw [s.2.2 i hi 1 (by decide), s.2.2 j hj 1 (by decide)]
  exact D i j hi hj hij h1 h2
theorem slM_lt : ∀ k, k < 15 → slM k < 15 := by decide
theorem Rm_sm {q q1 : Nat → Int32} {α1 α : Mem} {n : Nat} (h8 : n ≤ 8) (s : Sm α1 α n) (hq : ∀ m, m < 270 → q1 m = q m) (R : Rm q α n) : Rm q1 α1 n :=
  ⟨fun k hk => by rw [hq k (by omega), s.1 k hk]; exact R.1 k hk, fun c hc => by rw [hq _ (by omega), s.2.1 c hc]; exact R.2.1 c hc, fun i hi k hk => by rw [hq _ (by omega), s.2.2 i hi _ (slM_lt k hk)]; exact R.2.2 i hi k hk⟩
/-- the sea at B, as if it were the present one -/
def shA (α : Mem) (B : Nat) : Mem := fun j => α (B + (j - 4))
def Txt (α β : Mem) (l : Nat) : Prop := α 68 1 = J l ∧ l ≤ 150 ∧ β 70 4 = J l ∧ ∀ i, i < l → β 73 i = α 69 i
def Hst (α : Mem) (π : Nat → Nat) (β : Mem) (k : Nat) : Prop := α 15 1 = J k ∧ k ≤ 4 ∧ β 70 2 = J k ∧ seas π ∧ (∀ i j, i < 4 → j < 4 → π i = π j → i = j) ∧ ∀ j, j < k → ∃ m, Ok (shA α (π j)) m ∧ Dj (shA α (π j)) m ∧ Rm (fun q => β 72 (270 * j + q)) (shA α (π j)) m
def Inv (α : Mem) (π : Nat → Nat) (β : Mem) (n l k : Nat) : Prop := Ok α n ∧ Dj α n ∧ Rm (β 71) α n ∧ Txt α β l ∧ Hst α π β k
/-- the model's memory but its page -/
def Mq (β β' : Mem) : Prop := (∀ q, β' 72 q = β 72 q) ∧ (∀ q, β' 73 q = β 73 q) ∧ β' 70 2 = β 70 2 ∧ β' 70 4 = β 70 4
theorem Mq_r (β : Mem) : Mq β β := ⟨fun _ => rfl, fun _ => rfl, rfl, rfl⟩
theorem Mq_t {a b c : Mem} (h : Mq a b) (h2 : Mq b c) : Mq a c := ⟨fun q => (h2.1 q).trans (h.1 q), fun q => (h2.2.1 q).trans (h.2.1 q), h2.2.2.1.trans h.2.2.1, h2.2.2.2.trans h.2.2.2⟩
theorem Mq_md {β β' : Mem} (h : Md β β') : Mq β β' := ⟨fun _ => by rw [h 72 (by decide)], fun _ => by rw [h 73 (by decide)], by rw [h 70 (by decide)], by rw [h 70 (by decide)]⟩
theorem Mq_70 (β : Mem) {k : Nat} (h2 : k ≠ 2) (h4 : k ≠ 4) (v : Int32) : Mq β (up2 β 70 k v) := ⟨fun _ => by rw [up2_ne _ (by decide)], fun _ => by rw [up2_ne _ (by decide)], by rw [up2_rd _ _ _ _ _ (by omega)], by rw [up2_rd _ _ _ _ _ (by omega)]⟩
theorem Mq_74 (β : Mem) (f : Nat → Int32) : Mq β (upA β 74 f) := ⟨fun _ => by rw [upA_ne _ (by decide)], fun _ => by rw [upA_ne _ (by decide)], by rw [upA_ne _ (by decide)], by rw [upA_ne _ (by decide)]⟩
/-- only the present sea and the chart have changed -/
def Fs (α α' : Mem) : Prop := ∀ j, ¬ (4 ≤ j ∧ j < 15) → ¬ (64 ≤ j ∧ j < 68) → α' j = α j
theorem Fs_r (α : Mem) : Fs α α := fun _ _ _ => rfl
theorem Fs_t {a b c : Mem} (h : Fs a b) (h2 : Fs b c) : Fs a c := fun j q w => (h2 j q w).trans (h j q w)
theorem Fs_up (α : Mem) {a : Nat} (h : 4 ≤ a ∧ a < 15) (k : Nat) (v : Int32) : Fs α (up2 α a k v) := fun j q _ => up2_ne _ (fun w => q (by omega)) _ _
theorem Fs_s (α : Mem) {i : Nat} (h : i < 8) (k : Nat) (v : Int32) : Fs α (up2 α (7 + i) k v) := Fs_up α (by omega) k v
theorem Fs_upA (α : Mem) {a : Nat} (h : 4 ≤ a ∧ a < 15) (f : Nat → Int32) : Fs α (upA α a f) := fun j q _ => upA_ne _ (fun w => q (by omega)) _
theorem sea_lt {B : Nat} (h : isSea B) (h4 : B ≠ 4) : 17 ≤ B ∧ B ≤ 50 := by unfold isSea at h; omega
theorem Inv_up {α α' : Mem} {π : Nat → Nat} {β β' : Mem} {n n' l k : Nat} (I : Inv α π β n l k) (hF : Fs α α') (H : Ok α' n') (D : Dj α' n') (R : Rm (β' 71) α' n') (hM : Mq β β') : Inv α' π β' n' l k := by
  obtain ⟨-, -, -, ⟨t1, t2, t3, t4⟩, h1, h2, h3, h4, h5, h6⟩ := I
  have f68 := hF 68 (by decide) (by decide)
  have f69 := hF 69 (by decide) (by decide)
  have f15 := hF 15 (by decide) (by decide)
  refine ⟨H, D, R, ⟨by rw [f68]; exact t1, t2, by rw [hM.2.2.2]; exact t3, fun i hi => by rw [hM.2.1, f69]; exact t4 i hi⟩, by rw [f15]; exact h1, h2, by rw [hM.2.2.1]; exact h3, h4, h5, fun j hj => ?_⟩
  obtain ⟨m, m1, m2, m3⟩ := h6 j hj
  have hb := sea_lt (h4 j (by omega)).1 (h4 j (by omega)).2
  have m8 := m1.n8
  have s : Sm (shA α' (π j)) (shA α (π j)) m := Sm_of m8 (fun q q1 q2 => hF _ (by omega) (by omega))
  exact ⟨m, Ok_sm s m1, Dj_sm s m2, Rm_sm m8 s (fun q _ => hM.1 _) m3⟩
theorem rot_inj {π : Nat → Nat} (h : ∀ i j, i < 4 → j < 4 → π i = π j → i = j) : ∀ i j, i < 4 → j < 4 → rotN π i = rotN π j → i = j := by
  have e : ∀ i, i < 4 → rotN π i = π ((i + 1) % 4) := by
    intro i hi
    have : i = 0 ∨ i = 1 ∨ i = 2 ∨ i = 3 := by omega
    rcases this with rfl | rfl | rfl | rfl <;> rfl
  intro i j hi hj q
  rw [e i hi, e j hj] at q
  have := h _ _ (Nat.mod_lt _ (by omega)) (Nat.mod_lt _ (by omega)) q
  omega
theorem save_k {k : Nat} (h : k ≤ 4) : saveK k < 4 ∧ saveK k ≤ k := by unfold saveK; split <;> omega
theorem save_p {π : Nat → Nat} (h : seas π) (k : Nat) : seas (saveP π k) := by unfold saveP; split; exact seas_rot h; exact h
theorem save_o {α : Mem} {π : Nat → Nat} {n k j : Nat} (h8 : n ≤ 8) (hj : j ≠ 15) (h : j < saveP π k (saveK k) ∨ saveP π k (saveK k) + 10 < j) : saveC α π n k j = α j := by
  unfold saveC
  rw [up2_ne _ hj, seaW_o _ h8 h]
  unfold saveA
  split
  · rw [up2_ne _ hj]
  · rfl
theorem save_sq {α : Mem} {π : Nat → Nat} {n k : Nat} (hp : seas π) (h4 : k ≤ 4) (h8 : n ≤ 8) {j : Nat} (h : 4 ≤ j) (h' : j < 15) : saveC α π n k j = α j := by
  have hs := save_p hp k (saveK k) (save_k h4).1
  have hb := sea_lt hs.1 hs.2
  exact save_o h8 (by omega) (Or.inl (by omega))
theorem Inv_save {α : Mem} {π : Nat → Nat} {β : Mem} {n l k : Nat} (I : Inv α π β n l k) : Inv (saveC α π n k) (saveP π k) (keepB β k) n l (saveK k + 1) := by
  obtain ⟨H, D, R, ⟨t1, t2, t3, t4⟩, h1, h2, h3, h4, h5, h6⟩ := I
  have h8 := H.n8
  have hk := save_k h2
  have hs := save_p h4 k
  have hB := hs (saveK k) hk.1
  have hb := sea_lt hB.1 hB.2
  have hsm : Sm (saveC α π n k) α n := Sm_of h8 (fun j q1 q2 => save_sq h4 h2 h8 q1 q2)
  have b71 : keepB β k 71 = β 71 := by unfold keepB; rw [up2_ne _ (by decide), upA_ne _ (by decide)]
  have b73 : keepB β k 73 = β 73 := by unfold keepB; rw [up2_ne _ (by decide), upA_ne _ (by decide)]
  have b72 : keepB β k 72 = pgW (keepQ β k) (β 71) (saveK k) 270 := by unfold keepB; rw [up2_ne _ (by decide), upA_at]
  have b704 : keepB β k 70 4 = β 70 4 := by unfold keepB; rw [up2_rd _ _ _ _ _ (by decide), upA_ne _ (by decide)]
  have c68 : saveC α π n k 68 = α 68 := save_o h8 (by decide) (Or.inr (by omega))
  have c69 : saveC α π n k 69 = α 69 := save_o h8 (by decide) (Or.inr (by omega))
  have inj : ∀ i j, i < 4 → j < 4 → saveP π k i = saveP π k j → i = j := by
    unfold saveP; split; exact rot_inj h5; exact h5
  refine ⟨Ok_sm hsm H, Dj_sm hsm D, by rw [b71]; exact Rm_sm h8 hsm (fun _ _ => rfl) R, ⟨by rw [c68]; exact t1, t2, by rw [b704]; exact t3, fun i hi => by rw [b73, c69]; exact t4 i hi⟩, by unfold saveC; rw [up2_rr], by omega, by unfold keepB; rw [up2_rr], hs, inj, fun j hj => ?_⟩
  by_cases hjk : j = saveK k
  · subst hjk
    have hsm2 : Sm (shA (saveC α π n k) (saveP π k (saveK k))) α n := by
      have e : ∀ j, j ≠ 15 → saveC α π n k j = seaW (saveA α k) (saveP π k (saveK k)) 4 n j := fun j hj => by unfold saveC; rw [up2_ne _ hj]
      have ea : ∀ j, j ≠ 15 → saveA α k j = α j := fun j hj => by unfold saveA; split; rw [up2_ne _ hj]; rfl
      refine ⟨fun q hq => ?_, fun q hq => ?_, fun i hi q hq => ?_⟩
      · show saveC α π n k (saveP π k (saveK k) + 0) q = _
        rw [e _ (by omega), Nat.add_zero, seaW_h _ _ _ _ hq, ea 4 (by decide)]
      · show saveC α π n k (saveP π k (saveK k) + 1) q = _
        rw [e _ (by omega), seaW_r _ _ _ _ hq, ea (4 + 1) (by decide)]
      · show saveC α π n k (saveP π k (saveK k) + (7 + i - 4)) q = _
        rw [e _ (by omega), show saveP π k (saveK k) + (7 + i - 4) = saveP π k (saveK k) + 3 + i by omega, seaW_s _ _ _ _ hi hq, ea (4 + 3 + i) (by omega), show 4 + 3 + i = 7 + i by omega]
    refine ⟨n, Ok_sm hsm2 H, Dj_sm hsm2 D, Rm_sm h8 hsm2 (fun q hq => ?_) R⟩
    rw [b72]
    unfold pgW
    rw [if_pos ⟨by omega, by omega⟩]
    congr 1
    omega
  · have hj2 : j < saveK k := by omega
    have hjB := hs j (by omega)
    have hbj := sea_lt hjB.1 hjB.2
    have hne : saveP π k j ≠ saveP π k (saveK k) := fun w => hjk (inj _ _ (by omega) hk.1 w)
    have hap := sea_ap hjB.1 hB.1 hne
    have old : ∃ m, Ok (shA α (saveP π k j)) m ∧ Dj (shA α (saveP π k j)) m ∧ Rm (fun q => keepQ β k (270 * j + q)) (shA α (saveP π k j)) m := by
      by_cases q : k = 4
      · subst q
        have e1 : saveP π 4 j = π (j + 1) := by
          unfold saveP
          rw [if_pos rfl]
          have : j = 0 ∨ j = 1 ∨ j = 2 := by have : saveK 4 = 3 := rfl; omega
          rcases this with rfl | rfl | rfl <;> rfl
        rw [e1]
        obtain ⟨m, m1, m2, m3⟩ := h6 (j + 1) (by have : saveK 4 = 3 := rfl; omega)
        refine ⟨m, m1, m2, Rm_sm m1.n8 (Sm_r _ _) (fun q hq => ?_) m3⟩
        unfold keepQ sh3
        have : saveK 4 = 3 := rfl
        rw [if_pos rfl, if_pos (by omega)]
        congr 1
        omega
      · have e1 : saveP π k j = π j := by unfold saveP; rw [if_neg q]
        have e2 : saveK k = k := by unfold saveK; rw [if_neg q]
        rw [e1]
        obtain ⟨m, m1, m2, m3⟩ := h6 j (by omega)
        refine ⟨m, m1, m2, ?_⟩
        unfold keepQ
        rw [if_neg q]
        exact m3
    obtain ⟨m, m1, m2, m3⟩ := old
    have hsm3 : Sm (shA (saveC α π n k) (saveP π k j)) (shA α (saveP π k j)) m := Sm_of m1.n8 (fun q q1 q2 => save_o h8 (by omega) (by omega))
    refine ⟨m, Ok_sm hsm3 m1, Dj_sm hsm3 m2, Rm_sm m1.n8 hsm3 (fun q hq => ?_) m3⟩
    rw [b72]
    unfold pgW
    rw [if_neg (by omega)]
