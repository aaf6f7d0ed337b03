/-! the law's check 'fights' -/
theorem hitG_q (α : Mem) (i j : Nat) (f : Int32) {q : Nat} (h : q ≠ j) (m : Nat) : hitG α i j f (7 + q) m = α (7 + q) m := by
  unfold hitG
  split
  · rw [up2_s, if_neg (fun w => h w.1)]
  · split
    · rw [up2_s, if_neg (fun w => h w.1)]
    · rfl
theorem hitG_g (α : Mem) (i j : Nat) (f : Int32) : (hitG α i j f (7 + j) 5 = α (7 + j) 5 ∧ hitG α i j f (7 + j) 6 = α (7 + j) 6) ∨ (hitG α i j f (7 + j) 5 = mxC 0 (α (7 + j) 5 - f / 12) ∧ hitG α i j f (7 + j) 6 = α (7 + j) 6) ∨ (hitG α i j f (7 + j) 5 = α (7 + j) 5 ∧ hitG α i j f (7 + j) 6 = mxC 0 (α (7 + j) 6 - f / 12)) := by
  unfold hitG
  split
  · exact Or.inr (Or.inl ⟨by rw [up2_rr], by rw [up2_rd _ _ _ _ _ (by decide)]⟩)
  · split
    · exact Or.inr (Or.inr ⟨by rw [up2_rd _ _ _ _ _ (by decide)], by rw [up2_rr]⟩)
    · exact Or.inl ⟨rfl, rfl⟩
theorem hitH_o (α : Mem) (i j : Nat) (f : Int32) (q : Nat) {m : Nat} (h : m ≠ 3) : hitH α i j f (7 + q) m = hitG α i j f (7 + q) m := by unfold hitH; rw [up2_s, if_neg (fun w => h w.2)]
theorem hitC_3 (α : Mem) (i j : Nat) (f : Int32) : hitC α i j f (7 + j) 3 = α (7 + j) 3 - hitL α j f := by
  unfold hitC
  split
  · unfold hitH; rw [up2_rr]
  · rw [loose_o _ _ _ (by decide)]; unfold hitH; rw [up2_rr]
theorem hitC_m (α : Mem) (i j : Nat) (f : Int32) (q : Nat) {m : Nat} (h3 : m ≠ 3) (h12 : m ≠ 12) : hitC α i j f (7 + q) m = hitG α i j f (7 + q) m := by
  unfold hitC
  split
  · exact hitH_o _ _ _ _ _ h3
  · rw [loose_o _ _ _ h12]; exact hitH_o _ _ _ _ _ h3
theorem hitC_12 {α : Mem} {n i j : Nat} {f : Int32} (H : Ok α n) (hj : j < n) (h : ¬ 0 < α (7 + j) 3 - hitL α j f) : hitC α i j f (7 + j) 12 = -1 := by
  have K := Kp_hitG α n i j f
  have e : hitH α i j f (7 + j) 12 = α (7 + j) 12 := by rw [hitH_o _ _ _ _ _ (by decide)]; exact (K.2.2 j hj).2.2.2
  unfold hitC
  rw [if_neg h, loose_12 H.n8 (by rw [e]; exact H.pt hj) hj, if_pos (Or.inl rfl)]
theorem wait_v (α : Mem) (a : Nat) : waitC α a = 1 ∨ waitC α a = 2 := by unfold waitC; split; exact Or.inr rfl; exact Or.inl rfl
/-- the two ships of a shot -/
theorem canF_of {α : Mem} {n i j : Nat} {r : Int32} (h : 0 < forceC α n i r j) : canFC α n i r j := by
  unfold forceC at h
  by_cases q : canFC α n i r j
  · exact q
  · rw [if_neg q] at h; exact absurd h (by decide)
theorem force_0 {α : Mem} {n i j : Nat} {r : Int32} (h : ¬ 0 < α (7 + j) 3) : forceC α n i r j = 0 := by
  unfold forceC
  rw [if_neg (fun q => h q.1.2.1)]
section S91
variable {z : Zr} {α β γ : Mem} {π : Nat → Nat} {η : Int64} {o : Nat → Int64} {od : Nat → UInt64} {n k : Nat}
theorem t133_0 (G : Gs α π n k) {i j : Nat} (hi : i < n) (hj : j < n) (hij : i ≠ j) {r : Int32} (hr : r = 0 ∨ r = 1) (hm : canShootC α n i r j 0) : ∃ α' π' k', Run 133 0 [some (.ref (3)), some (.int (J i)), some (.int (r)), some (.int (J j)), some (.int (0)), none] [] (HC z α π β η o od) = some (.inl (some (.int (mnC (α (7 + j) 3) (forceC α n i r j / 4)))), (HC z α' π' β η o od)) ∧ Dn α π n k α' π' n k' ∧ α' (7 + i) (if r = 0 then 10 else 11) = waitC α (7 + i) ∧ α' (7 + j) 3 = α (7 + j) 3 - mnC (α (7 + j) 3) (forceC α n i r j / 4) ∧ (¬ 0 < α' (7 + j) 3 → α' (7 + j) 12 = -1) ∧ ((α' (7 + j) 5 = α (7 + j) 5 ∧ α' (7 + j) 6 = α (7 + j) 6) ∨ (α' (7 + j) 5 = mxC 0 (α (7 + j) 5 - forceC α n i r j / 12) ∧ α' (7 + j) 6 = α (7 + j) 6) ∨ (α' (7 + j) 5 = α (7 + j) 5 ∧ α' (7 + j) 6 = mxC 0 (α (7 + j) 6 - forceC α n i r j / 12))) := by
  have h8 := G.ok.n8
  have sq := (Gs_save G).2.1
  have ei := sv_7 G (show i < 8 by omega)
  have ej := sv_7 G (show j < 8 by omega)
  have hf := force_bd (sv_sg G).1 hi hj r
  have O := Ok_shot (sv_sg G).1 hi hj r 0 hf.1
  have S := Sg_shot (sv_sg G) hi hj r 0
  have hr' := s96 (z := z) (β := β) (η := η) (o := o) (od := od) G.ok G.hp G.hk G.h4 hi hj hij hr (aim := 0) (by decide) hm
  have ew : waitC (saveC α π n k) (7 + i) = waitC α (7 + i) := by unfold waitC; rw [ei]
  have ef : forceC (saveC α π n k) n i r j = forceC α n i r j := force_sq sq h8 (by omega) (by omega) r
  have O0 : Ok (up2 (saveC α π n k) (7 + i) (if r = 0 then 10 else 11) (waitC (saveC α π n k) (7 + i))) n := Ok_wait (sv_sg G).1 i r
  have j0 : up2 (saveC α π n k) (7 + i) (if r = 0 then 10 else 11) (waitC (saveC α π n k) (7 + i)) (7 + j) = α (7 + j) := by rw [up2_ne _ (by omega), ej]
  have i0 : up2 (saveC α π n k) (7 + i) (if r = 0 then 10 else 11) (waitC (saveC α π n k) (7 + i)) (7 + i) (if r = 0 then 10 else 11) = waitC α (7 + i) := by rw [up2_rr, ew]
  have D := Dn_of G O.2.2 S
  have es : shotC (saveC α π n k) n i r j 0 = (hitC (up2 (saveC α π n k) (7 + i) (if r = 0 then 10 else 11) (waitC (saveC α π n k) (7 + i))) i j (forceC (saveC α π n k) n i r j), hitL (up2 (saveC α π n k) (7 + i) (if r = 0 then 10 else 11) (waitC (saveC α π n k) (7 + i))) j (forceC (saveC α π n k) n i r j)) := rfl
  rw [es] at hr' D
  generalize up2 (saveC α π n k) (7 + i) (if r = 0 then 10 else 11) (waitC (saveC α π n k) (7 + i)) = α0 at hr' D j0 i0 O0
  rw [ef] at hr' D
  have e3 : hitC α0 i j (forceC α n i r j) (7 + j) 3 = α (7 + j) 3 - mnC (α (7 + j) 3) (forceC α n i r j / 4) := by rw [hitC_3]; unfold hitL; rw [j0]
  have eL : hitL α0 j (forceC α n i r j) = mnC (α (7 + j) 3) (forceC α n i r j / 4) := by unfold hitL; rw [j0]
  dsimp only at hr' D
  rw [eL] at hr'
  refine ⟨_, _, _, w133_ok _ _ _ _ hr', D, ?_, e3, fun w => ?_, ?_⟩
  · rw [hitC_m _ _ _ _ _ (by split <;> decide) (by split <;> decide), hitG_q _ _ _ _ hij]; exact i0
  · rw [hitC_3] at w; exact hitC_12 O0 hj w
  · rw [hitC_m _ _ _ _ _ (by decide) (by decide), hitC_m _ _ _ _ _ (by decide) (by decide)]
    have := hitG_g α0 i j (forceC α n i r j)
    rw [j0] at this
    exact this
theorem t133_1 (G : Gs α π n k) {i j : Nat} (hi : i < n) (hj : j < n) (hij : i ≠ j) {r : Int32} (hr : r = 0 ∨ r = 1) (hm : canShootC α n i r j 1) : ∃ α' π' k', Run 133 0 [some (.ref (3)), some (.int (J i)), some (.int (r)), some (.int (J j)), some (.int (1)), none] [] (HC z α π β η o od) = some (.inl (some (.int (mnC (α (7 + j) 4) (forceC α n i r j / 6)))), (HC z α' π' β η o od)) ∧ Dn α π n k α' π' n k' ∧ α' (7 + i) (if r = 0 then 10 else 11) = waitC α (7 + i) ∧ α' (7 + j) 4 = α (7 + j) 4 - mnC (α (7 + j) 4) (forceC α n i r j / 6) ∧ α' (7 + j) 3 = α (7 + j) 3 ∧ α' (7 + j) 5 = α (7 + j) 5 ∧ α' (7 + j) 6 = α (7 + j) 6 := by
  have h8 := G.ok.n8
  have sq := (Gs_save G).2.1
  have ei := sv_7 G (show i < 8 by omega)
  have ej := sv_7 G (show j < 8 by omega)
  have hf := force_bd (sv_sg G).1 hi hj r
  have O := Ok_shot (sv_sg G).1 hi hj r 1 hf.1
  have S := Sg_shot (sv_sg G) hi hj r 1
  have hr' := s96 (z := z) (β := β) (η := η) (o := o) (od := od) G.ok G.hp G.hk G.h4 hi hj hij hr (aim := 1) (by decide) hm
  have ew : waitC (saveC α π n k) (7 + i) = waitC α (7 + i) := by unfold waitC; rw [ei]
  have ef : forceC (saveC α π n k) n i r j = forceC α n i r j := force_sq sq h8 (by omega) (by omega) r
  have O0 : Ok (up2 (saveC α π n k) (7 + i) (if r = 0 then 10 else 11) (waitC (saveC α π n k) (7 + i))) n := Ok_wait (sv_sg G).1 i r
  have j0 : up2 (saveC α π n k) (7 + i) (if r = 0 then 10 else 11) (waitC (saveC α π n k) (7 + i)) (7 + j) = α (7 + j) := by rw [up2_ne _ (by omega), ej]
  have i0 : up2 (saveC α π n k) (7 + i) (if r = 0 then 10 else 11) (waitC (saveC α π n k) (7 + i)) (7 + i) (if r = 0 then 10 else 11) = waitC α (7 + i) := by rw [up2_rr, ew]
  have D := Dn_of G O.2.2 S
  have es : shotC (saveC α π n k) n i r j 1 = (up2 (up2 (saveC α π n k) (7 + i) (if r = 0 then 10 else 11) (waitC (saveC α π n k) (7 + i))) (7 + j) 4 ((up2 (saveC α π n k) (7 + i) (if r = 0 then 10 else 11) (waitC (saveC α π n k) (7 + i))) (7 + j) 4 - mnC ((up2 (saveC α π n k) (7 + i) (if r = 0 then 10 else 11) (waitC (saveC α π n k) (7 + i))) (7 + j) 4) (forceC (saveC α π n k) n i r j / 6)), mnC ((up2 (saveC α π n k) (7 + i) (if r = 0 then 10 else 11) (waitC (saveC α π n k) (7 + i))) (7 + j) 4) (forceC (saveC α π n k) n i r j / 6)) := rfl
  rw [es] at hr' D
  generalize up2 (saveC α π n k) (7 + i) (if r = 0 then 10 else 11) (waitC (saveC α π n k) (7 + i)) = α0 at hr' D j0 i0 O0
  rw [ef] at hr' D
  rw [j0] at hr' D
  dsimp only at hr' D
  refine ⟨_, _, _, w133_ok _ _ _ _ hr', D, ?_, ?_, ?_, ?_, ?_⟩
  · rw [up2_s, if_neg (fun w => hij w.1)]; exact i0
  · rw [up2_rr]
  · rw [up2_rd _ _ _ _ _ (by decide), j0]
  · rw [up2_rd _ _ _ _ _ (by decide), j0]
  · rw [up2_rd _ _ _ _ _ (by decide), j0]
theorem t133_2 (G : Gs α π n k) {i j : Nat} (hi : i < n) (hj : j < n) (hij : i ≠ j) {r : Int32} (hr : r = 0 ∨ r = 1) (hm : canShootC α n i r j 2) : ∃ α' π' k', Run 133 0 [some (.ref (3)), some (.int (J i)), some (.int (r)), some (.int (J j)), some (.int (2)), none] [] (HC z α π β η o od) = some (.inl (some (.int (mxC 0 (mnC (α (7 + j) 7 - 1) (forceC α n i r j / 5))))), (HC z α' π' β η o od)) ∧ Dn α π n k α' π' n k' ∧ α' (7 + i) (if r = 0 then 10 else 11) = waitC α (7 + i) ∧ α' (7 + j) 7 = α (7 + j) 7 - mxC 0 (mnC (α (7 + j) 7 - 1) (forceC α n i r j / 5)) ∧ α' (7 + j) 3 = α (7 + j) 3 ∧ α' (7 + j) 5 = α (7 + j) 5 ∧ α' (7 + j) 6 = α (7 + j) 6 := by
  have h8 := G.ok.n8
  have sq := (Gs_save G).2.1
  have ei := sv_7 G (show i < 8 by omega)
  have ej := sv_7 G (show j < 8 by omega)
  have hf := force_bd (sv_sg G).1 hi hj r
  have O := Ok_shot (sv_sg G).1 hi hj r 2 hf.1
  have S := Sg_shot (sv_sg G) hi hj r 2
  have hr' := s96 (z := z) (β := β) (η := η) (o := o) (od := od) G.ok G.hp G.hk G.h4 hi hj hij hr (aim := 2) (by decide) hm
  have ew : waitC (saveC α π n k) (7 + i) = waitC α (7 + i) := by unfold waitC; rw [ei]
  have ef : forceC (saveC α π n k) n i r j = forceC α n i r j := force_sq sq h8 (by omega) (by omega) r
  have O0 : Ok (up2 (saveC α π n k) (7 + i) (if r = 0 then 10 else 11) (waitC (saveC α π n k) (7 + i))) n := Ok_wait (sv_sg G).1 i r
  have j0 : up2 (saveC α π n k) (7 + i) (if r = 0 then 10 else 11) (waitC (saveC α π n k) (7 + i)) (7 + j) = α (7 + j) := by rw [up2_ne _ (by omega), ej]
  have i0 : up2 (saveC α π n k) (7 + i) (if r = 0 then 10 else 11) (waitC (saveC α π n k) (7 + i)) (7 + i) (if r = 0 then 10 else 11) = waitC α (7 + i) := by rw [up2_rr, ew]
  have D := Dn_of G O.2.2 S
  have es : shotC (saveC α π n k) n i r j 2 = (up2 (up2 (saveC α π n k) (7 + i) (if r = 0 then 10 else 11) (waitC (saveC α π n k) (7 + i))) (7 + j) 7 ((up2 (saveC α π n k) (7 + i) (if r = 0 then 10 else 11) (waitC (saveC α π n k) (7 + i))) (7 + j) 7 - mxC 0 (mnC ((up2 (saveC α π n k) (7 + i) (if r = 0 then 10 else 11) (waitC (saveC α π n k) (7 + i))) (7 + j) 7 - 1) (forceC (saveC α π n k) n i r j / 5))), mxC 0 (mnC ((up2 (saveC α π n k) (7 + i) (if r = 0 then 10 else 11) (waitC (saveC α π n k) (7 + i))) (7 + j) 7 - 1) (forceC (saveC α π n k) n i r j / 5))) := rfl
  rw [es] at hr' D
  generalize up2 (saveC α π n k) (7 + i) (if r = 0 then 10 else 11) (waitC (saveC α π n k) (7 + i)) = α0 at hr' D j0 i0 O0
  rw [ef] at hr' D
  rw [j0] at hr' D
  dsimp only at hr' D
  refine ⟨_, _, _, w133_ok _ _ _ _ hr', D, ?_, ?_, ?_, ?_, ?_⟩
  · rw [up2_s, if_neg (fun w => hij w.1)]; exact i0
  · rw [up2_rr]
  · rw [up2_rd _ _ _ _ _ (by decide), j0]
  · rw [up2_rd _ _ _ _ _ (by decide), j0]
  · rw [up2_rd _ _ _ _ _ (by decide), j0]
end S91
