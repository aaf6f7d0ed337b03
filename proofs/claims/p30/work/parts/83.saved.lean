/-! the history: saving, what is saved, undoing -/
def Hs (α : Mem) (π : Nat → Nat) (k : Nat) : Prop := α 68 1 = J 0 ∧ α 15 1 = J k ∧ k ≤ 4 ∧ seas π ∧ ∀ i j, i < 4 → j < 4 → π i = π j → i = j
def Gs (α : Mem) (π : Nat → Nat) (n k : Nat) : Prop := Sg α n ∧ Hs α π k
/-- the saved state j is the sea of α0 -/
def Sv (α : Mem) (π : Nat → Nat) (j : Nat) (α0 : Mem) (n : Nat) : Prop := Sm (shA α (π j)) α0 n
/-- what an undoable call leaves: a sea that is right, and the one before saved; and what was saved before it -/
def Dn (α : Mem) (π : Nat → Nat) (n k : Nat) (α' : Mem) (π' : Nat → Nat) (n' k' : Nat) : Prop := Gs α' π' n' k' ∧ 1 ≤ k' ∧ Sv α' π' (k' - 1) α n ∧ (1 ≤ k → ∀ α0 m, m ≤ 8 → Sv α π (k - 1) α0 m → 2 ≤ k' ∧ Sv α' π' (k' - 2) α0 m)
theorem Gs.ok {α : Mem} {π : Nat → Nat} {n k : Nat} (G : Gs α π n k) : Ok α n := G.1.1
theorem Gs.h4 {α : Mem} {π : Nat → Nat} {n k : Nat} (G : Gs α π n k) : k ≤ 4 := G.2.2.2.1
theorem Gs.hp {α : Mem} {π : Nat → Nat} {n k : Nat} (G : Gs α π n k) : seas π := G.2.2.2.2.1
theorem Gs.hk {α : Mem} {π : Nat → Nat} {n k : Nat} (G : Gs α π n k) : α 15 1 = J k := G.2.2.1
theorem Sq_r (α : Mem) : Sq α α := fun _ _ _ => rfl
theorem Sm_sym {a b : Mem} {n : Nat} (h : Sm a b n) : Sm b a n := ⟨fun k q => (h.1 k q).symm, fun k q => (h.2.1 k q).symm, fun i hi k q => (h.2.2 i hi k q).symm⟩
theorem Hs_fs {α α' : Mem} {π : Nat → Nat} {k : Nat} (h : Hs α π k) (F : Fs α α') : Hs α' π k := by
  have f68 := F 68 (by decide) (by decide)
  have f15 := F 15 (by decide) (by decide)
  exact ⟨by rw [f68]; exact h.1, by rw [f15]; exact h.2.1, h.2.2⟩
theorem Sv_cg {α α' : Mem} {π π' : Nat → Nat} {j j' : Nat} {α0 : Mem} {m : Nat} (h8 : m ≤ 8) (hs : Sv α π j α0 m) (e : π' j' = π j) (F : ∀ q, π j ≤ q → q ≤ π j + 10 → α' q = α q) : Sv α' π' j' α0 m := by
  unfold Sv at *
  rw [e]
  exact Sm_t (Sm_of h8 (fun q q1 q2 => by unfold shA; exact F _ (by omega) (by omega))) hs
theorem Sv_fs {α α' : Mem} {π : Nat → Nat} {j : Nat} {α0 : Mem} {m : Nat} (hp : seas π) (hj : j < 4) (h8 : m ≤ 8) (F : Fs α α') (hs : Sv α π j α0 m) : Sv α' π j α0 m := by
  have hb := sea_lt (hp j hj).1 (hp j hj).2
  exact Sv_cg h8 hs rfl (fun q q1 q2 => F q (by omega) (by omega))
theorem Gs_save {α : Mem} {π : Nat → Nat} {n k : Nat} (G : Gs α π n k) : Gs (saveC α π n k) (saveP π k) n (saveK k + 1) ∧ Sq α (saveC α π n k) ∧ Sv (saveC α π n k) (saveP π k) (saveK k) α n ∧ (1 ≤ k → 1 ≤ saveK k ∧ ∀ α0 m, m ≤ 8 → Sv α π (k - 1) α0 m → Sv (saveC α π n k) (saveP π k) (saveK k - 1) α0 m) := by
  obtain ⟨S, h1, h2, h4, hp, hinj⟩ := G
  have h8 := S.1.n8
  have sq : Sq α (saveC α π n k) := fun j q w => save_sq hp h4 h8 q w
  have hk := save_k h4
  have hp' := save_p hp k
  have hi' : ∀ i j, i < 4 → j < 4 → saveP π k i = saveP π k j → i = j := by
    unfold saveP; split
    · exact rot_inj hinj
    · exact hinj
  have hB := hp' (saveK k) hk.1
  have lB := sea_lt hB.1 hB.2
  have e15 : saveC α π n k 15 1 = J (saveK k + 1) := by unfold saveC; rw [up2_rr]
  have e68 : saveC α π n k 68 = α 68 := save_o h8 (by decide) (Or.inr (by omega))
  refine ⟨⟨Sg_sq sq S, by rw [e68]; exact h1, e15, by omega, hp', hi'⟩, sq, ?_, fun hk1 => ?_⟩
  · have eo : ∀ j, j ≠ 15 → saveC α π n k j = seaW (saveA α k) (saveP π k (saveK k)) 4 n j := fun j hj => by unfold saveC; rw [up2_ne _ hj]
    have ea : ∀ j, j ≠ 15 → saveA α k j = α j := fun j hj => by unfold saveA; split; rw [up2_ne _ hj]; rfl
    refine ⟨fun m hm => ?_, fun c hc => ?_, fun i hi m hm => ?_⟩
    · show saveC α π n k (saveP π k (saveK k) + (4 - 4)) m = _
      rw [Nat.sub_self, Nat.add_zero, eo _ (by omega), seaW_h _ _ _ _ hm, ea 4 (by decide)]
    · show saveC α π n k (saveP π k (saveK k) + (5 - 4)) c = _
      rw [eo _ (by omega), seaW_r _ _ _ _ hc, ea 5 (by decide)]
    · show saveC α π n k (saveP π k (saveK k) + (7 + i - 4)) m = _
      rw [show saveP π k (saveK k) + (7 + i - 4) = saveP π k (saveK k) + 3 + i by omega, eo _ (by omega), seaW_s _ _ _ _ hi hm, show 4 + 3 + i = 7 + i by omega, ea _ (by omega)]
  · have q1 : 1 ≤ saveK k := by unfold saveK; split <;> omega
    refine ⟨q1, fun α0 m hm hs => ?_⟩
    have eπ : saveP π k (saveK k - 1) = π (k - 1) := by
      unfold saveP saveK
      by_cases w : k = 4
      · subst w; rfl
      · rw [if_neg w, if_neg w]
    have hA := hp (k - 1) (by omega)
    have lA := sea_lt hA.1 hA.2
    have ne : saveP π k (saveK k) ≠ π (k - 1) := fun w => by
      have := hi' (saveK k) (saveK k - 1) hk.1 (by omega) (by rw [eπ]; exact w)
      omega
    have ap := sea_ap hB.1 hA.1 ne
    exact Sv_cg hm hs eπ (fun q w1 w2 => save_o h8 (by omega) (by omega))
theorem Dn_of {α : Mem} {π : Nat → Nat} {n k : Nat} (G : Gs α π n k) {α' : Mem} {n' : Nat} (F : Fs (saveC α π n k) α') (S : Sg α' n') : Dn α π n k α' (saveP π k) n' (saveK k + 1) := by
  obtain ⟨g1, g2, g3, g4⟩ := Gs_save G
  have hk := save_k G.h4
  refine ⟨⟨S, Hs_fs g1.2 F⟩, by omega, Sv_fs g1.hp hk.1 G.ok.n8 F g3, fun h1 α0 m hm hs => ?_⟩
  obtain ⟨q1, q2⟩ := g4 h1
  exact ⟨by omega, Sv_fs (j := saveK k - 1) g1.hp (by omega) hm F (q2 α0 m hm hs)⟩
section S83
variable {z : Zr} {α β γ : Mem} {π : Nat → Nat} {η : Int64} {o : Nat → Int64} {od : Nat → UInt64} {n k : Nat}
/-- undoing -/
theorem t143 (h : Hs α π (k + 1)) {α0 : Mem} (S0 : Sg α0 n) (hs : Sv α π k α0 n) : ∃ α', Run 143 0 [some (.ref (3)), none] [] (HC z α π β η o od) = some (.inl (some (.int (J k))), (HC z α' π β η o od)) ∧ Sm α' α0 n ∧ Gs α' π n k ∧ (1 ≤ k → ∀ α2 m, m ≤ 8 → Sv α π (k - 1) α2 m → Sv α' π (k - 1) α2 m) := by
  obtain ⟨h1, h2, h4, hp, hinj⟩ := h
  have h8 := S0.1.n8
  have hA := hp k (by omega)
  have lA := sea_lt hA.1 hA.2
  have sm : Sm (seaW (up2 α 15 1 (J k)) 4 (π k) n) α0 n := by
    refine Sm_t ⟨fun m hm => ?_, fun c hc => ?_, fun i hi m hm => ?_⟩ hs
    · rw [seaW_h _ _ _ _ hm, up2_ne _ (by omega)]
      show _ = α (π k + (4 - 4)) m
      rw [Nat.sub_self, Nat.add_zero]
    · rw [show (5 : Nat) = 4 + 1 from rfl, seaW_r _ _ _ _ hc, up2_ne _ (by omega)]
      rfl
    · rw [show 7 + i = 4 + 3 + i by omega, seaW_s _ _ _ _ hi hm, up2_ne _ (by omega)]
      show _ = α (π k + (4 + 3 + i - 4)) m
      rw [show π k + (4 + 3 + i - 4) = π k + 3 + i by omega]
  have eo : ∀ j, 15 < j → seaW (up2 α 15 1 (J k)) 4 (π k) n j = α j := fun j hj => by rw [seaW_o _ h8 (Or.inr (by omega)), up2_ne _ (by omega)]
  have e15 : seaW (up2 α 15 1 (J k)) 4 (π k) n 15 1 = J k := by rw [seaW_o _ h8 (Or.inr (by decide)), up2_rr]
  refine ⟨_, w143_ok (s107 hp h2 (by omega) (Ok_sm hs S0.1)), sm, ⟨Sg_sm sm S0, by rw [eo 68 (by decide)]; exact h1, e15, by omega, hp, hinj⟩, fun h1 α2 m hm hs2 => ?_⟩
  have hA := hp (k - 1) (by omega)
  have lA := sea_lt hA.1 hA.2
  exact Sv_cg hm hs2 rfl (fun q w1 w2 => eo q (by omega))
end S83
