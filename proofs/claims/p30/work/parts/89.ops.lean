/-! what undoable calls leave; seas that are the same as far as they have numbers -/
theorem sm_cell {α α1 : Mem} {n : Nat} (s : Sm α1 α n) (c : Int32) : isCellC α1 4 c = isCellC α 4 c := by unfold isCellC; rw [s.1 0 (by decide), s.1 1 (by decide)]
theorem cell_tn {α : Mem} {c : Int32} (h : isCellC α 4 c) : c.toNatClampNeg < 144 := by
  have h1 := h.1; have h2 := h.2.2
  rw [i32_le, ti0] at h1
  rw [i32_lt, ti144] at h2
  have : c.toNatClampNeg = c.toInt.toNat := rfl
  omega
theorem sm_shipOn {α α1 : Mem} {c : Int32} : ∀ k i, (∀ j, i ≤ j → j < i + k → α1 (7 + j) 3 = α (7 + j) 3 ∧ α1 (7 + j) 1 = α (7 + j) 1) → shipOnF α1 c k i = shipOnF α c k i := by
  intro k
  induction k with
  | zero => intro i _; rfl
  | succ k ih =>
    intro i h
    have hi := h i (Nat.le_refl i) (by omega)
    rw [shipOnF, shipOnF, hi.1, hi.2, ih _ (fun j h1 h2 => h j (by omega) (by omega))]
theorem sm_on {α α1 : Mem} {n : Nat} (s : Sm α1 α n) (c : Int32) : shipOnF α1 c n 0 = shipOnF α c n 0 := sm_shipOn n 0 (fun j _ hj => ⟨s.2.2 j (by omega) 3 (by decide), s.2.2 j (by omega) 1 (by decide)⟩)
theorem sm_free {α α1 : Mem} {n : Nat} (s : Sm α1 α n) (c : Int32) : freeC α1 n c ↔ freeC α n c := by
  unfold freeC
  rw [sm_cell s, sm_on s]
  constructor
  · exact fun w => ⟨w.1, by rw [← s.2.1 _ (cell_tn w.1)]; exact w.2.1, w.2.2⟩
  · exact fun w => ⟨w.1, by rw [s.2.1 _ (cell_tn w.1)]; exact w.2.1, w.2.2⟩
theorem sm_rock {α α1 : Mem} {n : Nat} (s : Sm α1 α n) (c : Int32) : rockC α1 c ↔ rockC α c := by
  unfold rockC
  rw [sm_cell s]
  constructor
  · exact fun w => ⟨w.1, by rw [← s.2.1 _ (cell_tn w.1)]; exact w.2⟩
  · exact fun w => ⟨w.1, by rw [s.2.1 _ (cell_tn w.1)]; exact w.2⟩
theorem sm_thing {α α1 : Mem} {n : Nat} (s : Sm α1 α n) (c : Int32) : thingC α1 n c = thingC α n c := by
  unfold thingC
  rw [sm_on s]
  by_cases q : rockC α c
  · rw [if_pos q, if_pos ((sm_rock s c).mpr q)]
  · rw [if_neg q, if_neg (fun w => q ((sm_rock s c).mp w))]
theorem nb_4 {α α1 : Mem} (h0 : α1 4 0 = α 4 0) (h1 : α1 4 1 = α 4 1) (c : Int32) (e : Nat) : nbC α1 c e = nbC α c e := by unfold nbC rowC colC; rw [h0, h1]
theorem sg_4 {α α1 : Mem} (h : α1 4 0 = α 4 0) (a b : Int32) : sgC α1 a b = sgC α a b := by unfold sgC rowC colC; rw [h]
theorem sm_nb {α α1 : Mem} {n : Nat} (s : Sm α1 α n) (c : Int32) (e : Nat) : nbC α1 c e = nbC α c e := nb_4 (s.1 0 (by decide)) (s.1 1 (by decide)) c e
theorem sm_wd {α α1 : Mem} {n : Nat} (s : Sm α1 α n) : wdN α1 = wdN α := by unfold wdN; rw [s.1 2 (by decide)]
theorem sm_hd {α α1 : Mem} {n i : Nat} (s : Sm α1 α n) (hi : i < n) : hdA α1 (7 + i) = hdA α (7 + i) := by unfold hdA; rw [s.2.2 i hi 2 (by decide)]
theorem sm_sail {α α1 : Mem} {n i : Nat} (s : Sm α1 α n) (hi : i < n) : canSailC α1 (7 + i) ↔ canSailC α (7 + i) := by
  unfold canSailC
  rw [s.2.2 i hi 3 (by decide), s.2.2 i hi 4 (by decide), s.2.2 i hi 12 (by decide), s.2.2 i hi 9 (by decide)]
theorem sm_move {α α1 : Mem} {n i : Nat} (s : Sm α1 α n) (hi : i < n) : canMoveC α1 n i ↔ canMoveC α n i := by
  unfold canMoveC
  rw [sm_sail s hi, sm_hd s hi, sm_wd s, sm_nb s, s.2.2 i hi 1 (by decide), sm_free s]
theorem sm_drifts {α α1 : Mem} {n i : Nat} (s : Sm α1 α n) (hi : i < n) : driftsC α1 n i ↔ driftsC α n i := by
  unfold driftsC
  rw [s.2.2 i hi 3 (by decide), s.2.2 i hi 4 (by decide), s.2.2 i hi 12 (by decide), s.1 3 (by decide), sm_wd s, sm_nb s, s.2.2 i hi 1 (by decide), sm_free s]
theorem sm_up {α α1 : Mem} {n : Nat} (s : Sm α1 α n) (i k : Nat) {v v1 : Int32} (h : v1 = v) : Sm (up2 α1 (7 + i) k v1) (up2 α (7 + i) k v) n := by
  subst h
  refine ⟨fun m hm => ?_, fun c hc => ?_, fun q hq m hm => ?_⟩
  · rw [up2_4, up2_4]; exact s.1 m hm
  · rw [up2_55, up2_55]; exact s.2.1 c hc
  · rw [up2_s, up2_s, s.2.2 q hq m hm]
theorem sm_dr1 (n : Nat) : ∀ k i (α α1 : Mem) v, i + k = n → Sm α1 α n → (dr1 n k i α1 v).2 = (dr1 n k i α v).2 := by
  intro k
  induction k with
  | zero => intro i α α1 v _ _; rfl
  | succ k ih =>
    intro i α α1 v hi s
    rw [dr1, dr1]
    by_cases q : driftsC α n i
    · rw [if_pos q, if_pos ((sm_drifts s (by omega)).mpr q)]
      refine ih _ _ _ _ (by omega) ?_
      unfold driftC
      exact sm_up s i 1 (by rw [sm_wd s, sm_nb s, s.2.2 i (by omega) 1 (by decide)])
    · rw [if_neg q, if_neg (fun w => q ((sm_drifts s (by omega)).mp w))]
      exact ih _ _ _ _ (by omega) s
/-- the ships but i are as they were, and so are wind and rocks -/
def Ot1 (α α' : Mem) (i : Nat) : Prop := α' 4 = α 4 ∧ α' 5 = α 5 ∧ ∀ q, q < 8 → q ≠ i → α' (7 + q) = α (7 + q)
section S89
variable {z : Zr} {α β γ : Mem} {π : Nat → Nat} {η : Int64} {o : Nat → Int64} {od : Nat → UInt64} {n k : Nat}
theorem sv_4 (G : Gs α π n k) : saveC α π n k 4 = α 4 := (Gs_save G).2.1 4 (by decide) (by decide)
theorem sv_5 (G : Gs α π n k) : saveC α π n k 5 = α 5 := (Gs_save G).2.1 5 (by decide) (by decide)
theorem sv_7 (G : Gs α π n k) {q : Nat} (hq : q < 8) : saveC α π n k (7 + q) = α (7 + q) := (Gs_save G).2.1 (7 + q) (by omega) (by omega)
theorem sv_sg (G : Gs α π n k) : Sg (saveC α π n k) n := (Gs_save G).1.1
/-- the wind is set -/
theorem t123 (G : Gs α π n k) {e s : Nat} (he : e < 6) (hs : s < 4) : ∃ α' π' k', Run 123 0 [some (.ref (3)), some (.int (J e)), some (.int (J s)), none] [] (HC z α π β η o od) = some (.inl (some (.int (α 4 2))), (HC z α' π' β η o od)) ∧ Dn α π n k α' π' n k' ∧ (∀ m, α' 4 m = if m = 3 then J s else if m = 2 then J e else α 4 m) ∧ α' 5 = α 5 ∧ ∀ q, q < 8 → α' (7 + q) = α (7 + q) := by
  have hd : dirC (J e) := ⟨by rw [i32_lt, J_ti (by omega), ti0]; omega, by rw [i32_lt, J_ti (by omega), show (5 : Int32).toInt = 5 from rfl]; omega⟩
  have hr : ¬ J s < 0 ∧ ¬ 3 < J s := ⟨by rw [i32_lt, J_ti (by omega), ti0]; omega, by rw [i32_lt, J_ti (by omega), show (3 : Int32).toInt = 3 from rfl]; omega⟩
  refine ⟨_, _, _, w123_ok _ _ (s85 G.ok G.hp G.hk G.h4 hd hr), Dn_of G (Fs_t (Fs_up _ (by decide) _ _) (Fs_up _ (by decide) _ _)) (Sg_wind (sv_sg G) he (by rw [J_ti (by omega)]; omega)), fun m => ?_, ?_, fun q hq => ?_⟩
  · rw [up2_a, up2_a, sv_4 G]
  · rw [up2_ne _ (by decide), up2_ne _ (by decide), sv_5 G]
  · rw [up2_ne _ (by omega), up2_ne _ (by omega), sv_7 G hq]
/-- a rock is set -/
theorem t122 (G : Gs α π n k) {c b : Int32} (hc : isCellC α 4 c) (h1 : shipOnF α c n 0 = -1) (hb : b = 0 ∨ b = 1) : ∃ α' π' k', Run 122 0 [some (.ref (3)), some (.int (c)), some (.int (b)), none] [] (HC z α π β η o od) = some (.inl (some (.int (bi (rockC α c)))), (HC z α' π' β η o od)) ∧ Dn α π n k α' π' n k' ∧ α' 4 = α 4 ∧ α' 5 c.toNatClampNeg = b ∧ ∀ q, q < 8 → α' (7 + q) = α (7 + q) := by
  have hc' : isCellC (saveC α π n k) 4 c := by unfold isCellC; rw [sv_4 G]; exact hc
  have h1' : shipOnF (saveC α π n k) c n 0 = -1 := by rw [shipOn_sq (Gs_save G).2.1 c n 0 (by have := G.ok.n8; omega)]; exact h1
  refine ⟨_, _, _, w122_ok _ _ (s84 G.ok G.hp G.hk G.h4 hc h1 hb), Dn_of G (Fs_up _ (by decide) _ _) (Sg_rock (sv_sg G) hc' h1' hb), ?_, up2_rr .., fun q hq => ?_⟩
  · rw [up2_ne _ (by decide), sv_4 G]
  · rw [up2_ne _ (by omega), sv_7 G hq]
/-- a ship moves ahead -/
theorem t130 (G : Gs α π n k) {i : Nat} (hi : i < n) (hm : canMoveC α n i) : ∃ α' π' k', Run 130 0 [some (.ref (3)), some (.int (J i)), none] [] (HC z α π β η o od) = some (.inl (some (.int (nbC α (α (7 + i) 1) (hdA α (7 + i))))), (HC z α' π' β η o od)) ∧ Dn α π n k α' π' n k' ∧ Ot1 α α' i ∧ ∀ m, α' (7 + i) m = if m = 14 then 1 else if m = 9 then α (7 + i) 9 - 1 else if m = 1 then nbC α (α (7 + i) 1) (hdA α (7 + i)) else α (7 + i) m := by
  have h8 := G.ok.n8
  have sq := (Gs_save G).2.1
  have e7 := sv_7 G (show i < 8 by omega)
  have en : nbC (saveC α π n k) (saveC α π n k (7 + i) 1) (hdA (saveC α π n k) (7 + i)) = nbC α (α (7 + i) 1) (hdA α (7 + i)) := by
    rw [nb_sq sq, e7]; unfold hdA; rw [e7]
  have hm' : canMoveC (saveC α π n k) n i := (move_sq sq h8 (by omega)).mpr hm
  have ev : ∀ m, moveC (saveC α π n k) i (7 + i) m = if m = 14 then 1 else if m = 9 then α (7 + i) 9 - 1 else if m = 1 then nbC α (α (7 + i) 1) (hdA α (7 + i)) else α (7 + i) m := fun m => by
    unfold moveC; rw [up2_a, up2_a, up2_a, en, e7]
  have hr := s92 (z := z) (β := β) (η := η) (o := o) (od := od) G.ok G.hp G.hk G.h4 hi hm
  rw [ev 1, if_neg (by decide), if_neg (by decide), if_pos rfl] at hr
  refine ⟨_, _, _, w130_ok _ hr, Dn_of G (Fs_move _ (by omega)) (Sg_move (sv_sg G) hi hm'), ⟨?_, ?_, fun q hq hne => ?_⟩, ev⟩
  · unfold moveC; rw [up2_ne _ (by omega), up2_ne _ (by omega), up2_ne _ (by omega), sv_4 G]
  · unfold moveC; rw [up2_ne _ (by omega), up2_ne _ (by omega), up2_ne _ (by omega), sv_5 G]
  · unfold moveC; rw [up2_ne _ (by omega), up2_ne _ (by omega), up2_ne _ (by omega), sv_7 G hq]
/-- a ship turns -/
theorem t131 (G : Gs α π n k) {i : Nat} (hi : i < n) {r : Int32} (hr : r = 0 ∨ r = 1) (hm : canSwingC α i r) : ∃ α' π' k', Run 131 0 [some (.ref (3)), some (.int (J i)), some (.int (r)), none] [] (HC z α π β η o od) = some (.inl (some (.int (J (hdN (hdA α (7 + i)) r)))), (HC z α' π' β η o od)) ∧ Dn α π n k α' π' n k' ∧ Ot1 α α' i ∧ ∀ m, α' (7 + i) m = if m = 14 then 0 else if m = 9 then α (7 + i) 9 - 1 else if m = 2 then J (hdN (hdA α (7 + i)) r) else α (7 + i) m := by
  have h8 := G.ok.n8
  have sq := (Gs_save G).2.1
  have e7 := sv_7 G (show i < 8 by omega)
  have eh : hdA (saveC α π n k) (7 + i) = hdA α (7 + i) := by unfold hdA; rw [e7]
  have hm' : canSwingC (saveC α π n k) i r := (swing_sq sq (by omega) r).mpr hm
  have ev : ∀ m, swingC (saveC α π n k) (7 + i) (J (hdN (hdA (saveC α π n k) (7 + i)) r)) (7 + i) m = if m = 14 then 0 else if m = 9 then α (7 + i) 9 - 1 else if m = 2 then J (hdN (hdA α (7 + i)) r) else α (7 + i) m := fun m => by
    unfold swingC; rw [up2_a, up2_a, up2_a, eh, e7]
  have hr' := s93 (z := z) (β := β) (η := η) (o := o) (od := od) G.ok G.hp G.hk G.h4 hi hr hm
  rw [ev 2, if_neg (by decide), if_neg (by decide), if_pos rfl] at hr'
  refine ⟨_, _, _, w131_ok _ _ hr', Dn_of G (Fs_swing _ (by omega) _) (Sg_swing (sv_sg G) hi hm'), ⟨?_, ?_, fun q hq hne => ?_⟩, ev⟩
  · unfold swingC; rw [up2_ne _ (by omega), up2_ne _ (by omega), up2_ne _ (by omega), sv_4 G]
  · unfold swingC; rw [up2_ne _ (by omega), up2_ne _ (by omega), up2_ne _ (by omega), sv_5 G]
  · unfold swingC; rw [up2_ne _ (by omega), up2_ne _ (by omega), up2_ne _ (by omega), sv_7 G hq]
/-- ropes are thrown -/
theorem t134 (G : Gs α π n k) {i j : Nat} (hi : i < n) (hj : j < n) (hij : i ≠ j) (hm : canTieC α i j) : ∃ α' π' k', Run 134 0 [some (.ref (3)), some (.int (J i)), some (.int (J j)), none] [] (HC z α π β η o od) = some (.inl (some (.int (cntF (fun q => ¬ α' (7 + q) 12 = -1) n 0 0))), (HC z α' π' β η o od)) ∧ Dn α π n k α' π' n k' ∧ α' (7 + i) 12 = J j ∧ α' (7 + j) 12 = J i := by
  have h8 := G.ok.n8
  have sq := (Gs_save G).2.1
  have ei := sv_7 G (show i < 8 by omega)
  have ej := sv_7 G (show j < 8 by omega)
  have hm' : canTieC (saveC α π n k) i j := by unfold canTieC; rw [ei, ej, fr_4 (show saveC α π n k 4 0 = α 4 0 by rw [sv_4 G])]; exact hm
  have F : Fs (saveC α π n k) (tieC (saveC α π n k) i j) := Fs_t (Fs_s _ (by omega) _ _) (Fs_s _ (by omega) _ _)
  refine ⟨_, _, _, w134_ok _ _ (s97 G.ok G.hp G.hk G.h4 hi hj hij hm), Dn_of G F (Sg_tie (sv_sg G) hi hj hij hm'), ?_, ?_⟩
  · unfold tieC; rw [up2_s, if_neg (fun w => hij w.1), up2_s, if_pos ⟨rfl, rfl⟩]
  · unfold tieC; rw [up2_s, if_pos ⟨rfl, rfl⟩]
/-- ropes are cut -/
theorem t135 (G : Gs α π n k) {i j : Nat} (hi : i < n) (hj : j < n) (hm : α (7 + i) 12 = J j) : ∃ α' π' k', Run 135 0 [some (.ref (3)), some (.int (J i)), none] [] (HC z α π β η o od) = some (.inl (some (.int (J j))), (HC z α' π' β η o od)) ∧ Dn α π n k α' π' n k' ∧ α' (7 + i) 12 = -1 ∧ α' (7 + j) 12 = -1 ∧ α' (7 + i) 7 = α (7 + i) 7 := by
  have h8 := G.ok.n8
  have ei := sv_7 G (show i < 8 by omega)
  have hn : ¬ α (7 + i) 12 = -1 := by rw [hm]; exact Jm1 (by omega)
  have hr := s98 (z := z) (β := β) (η := η) (o := o) (od := od) G.ok G.hp G.hk G.h4 hi hn
  rw [hm] at hr
  have O : saveC α π n k (7 + i) 12 = -1 ∨ ∃ j, j < n ∧ saveC α π n k (7 + i) 12 = J j := Or.inr ⟨j, hj, by rw [ei]; exact hm⟩
  refine ⟨_, _, _, w135_ok _ hr, Dn_of G (Fs_loose (sv_sg G).1 hi) (Sg_loose (sv_sg G) hi), ?_, ?_, ?_⟩
  · rw [loose_12 h8 O hi, if_pos (Or.inl rfl)]
  · rw [loose_12 h8 O hj, if_pos (Or.inr (by rw [ei]; exact hm))]
  · rw [loose_o _ _ _ (by decide), ei]
/-- the round ends -/
theorem t94 (G : Gs α π n k) : ∃ α' π' k' α1, Run 94 0 [some (.ref 3)] [] (HC z α π β η o od) = some (.inl (some (.int (dr1 n n 0 α1 0).2)), HC z α' π' β η o od) ∧ Dn α π n k α' π' n k' ∧ α' = finC α1 n ∧ Sq α α1 := by
  exact ⟨_, _, _, _, s94 G.ok G.hp G.hk G.h4, Dn_of G (Fs_fin G.ok.n8) (Sg_fin (sv_sg G)), rfl, (Gs_save G).2.1⟩
end S89
