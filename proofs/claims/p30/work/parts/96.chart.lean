/-! what a ship can reach; its best shot; its best wind -/
theorem Ed_w {α : Mem} {n i s t : Nat} (H : Ok α n) (hi : i < n) (hs : s < 1728) (hc : isCellC α 4 (J (s / 12))) (h : Ed α n i s t) : t / 12 = s / 12 ∨ (J (t / 12) = nbC α (J (s / 12)) (s % 12 / 2) ∧ (nbC α (J (s / 12)) (s % 12 / 2) = α (7 + i) 1 ∨ freeC α n (nbC α (J (s / 12)) (s % 12 / 2)))) := by
  have hsh : s % 12 / 2 < 6 := by omega
  rcases h with h | h | h
  · right
    unfold aE at h
    by_cases q : angN (s % 12 / 2) (wdN α) = 3
    · rw [if_pos q] at h; cases h
    · rw [if_neg q] at h
      by_cases w : nbC α (J (s / 12)) (s % 12 / 2) = α (7 + i) 1 ∨ freeC α n (nbC α (J (s / 12)) (s % 12 / 2))
      · rw [if_pos w] at h
        have hcell : isCellC α 4 (nbC α (J (s / 12)) (s % 12 / 2)) := by
          rcases w with w | w
          · rw [w]; exact H.isC hi
          · exact w.1
        obtain ⟨x, hx, e⟩ := cell_J H hcell
        rw [e, J_tn (by omega)] at h
        have ht := Option.some.inj h
        refine ⟨?_, w⟩
        rw [e, ← ht]
        congr 1
        omega
      · rw [if_neg w] at h; cases h
  all_goals
    left
    unfold tE at h
    split at h
    · have ht := Option.some.inj h
      have he : ∀ e, e < 6 → (12 * (s / 12) + (2 * e + 0)) / 12 = s / 12 := fun e he => by omega
      rw [← ht, he _ (Nat.mod_lt _ (by omega))]
    · cases h
/-- what is noted of a stand is so -/
def Rch (α : Mem) (n i : Nat) (pt : Nat → Int32) (p : Nat) : Prop := ∀ t, t < 1728 → ¬ pt t = -1 → isCellC α 4 (J (t / 12)) ∧ (freeC α n (J (t / 12)) ∨ J (t / 12) = α (7 + i) 1) ∧ (frC α (α (7 + i) 1) (J (t / 12))).toInt + (pt t).toInt ≤ (α (7 + i) 9).toInt ∧ (p : Int) ≤ (pt t).toInt
theorem Rch_pr {α : Mem} {n i : Nat} (H : Ok α n) (hi : i < n) {S : Nat → Prop} {pt pj : Nat → Int32} {p : Nat} (hp : p < 1000) (h : Pr α n i S pt pj (J p)) (hS : ∀ s, S s → s < 1728 ∧ pt s = J (p + 1)) (R : Rch α n i pt (p + 1)) : Rch α n i pj p := by
  intro t ht hne
  by_cases q : pt t = -1 ∧ ∃ s, S s ∧ Ed α n i s t
  · have e := (h t).1 q
    obtain ⟨-, s, hs, he⟩ := q
    obtain ⟨s1, s2⟩ := hS s hs
    have sm1 : ¬ pt s = -1 := by rw [s2]; exact Jm1 (by omega)
    obtain ⟨r1, r2, r3, r4⟩ := R s s1 sm1
    rw [s2, J_ti (by omega)] at r3
    rw [e, J_ti (by omega)]
    rcases Ed_w H hi s1 r1 he with w | ⟨w1, w2⟩
    · rw [w]
      exact ⟨r1, r2, by omega, Int.le_refl _⟩
    · have hc : isCellC α 4 (nbC α (J (s / 12)) (s % 12 / 2)) := by
        rcases w2 with w2 | w2
        · rw [w2]; exact H.isC hi
        · exact w2.1
      have nb := nb_at H r1 (show s % 12 / 2 < 6 by omega) hc
      have st := fr_step H (H.isC hi) r1 hc nb.2.1
      rw [w1]
      exact ⟨hc, w2.elim Or.inr Or.inl, by omega, Int.le_refl _⟩
  · have e := (h t).2 q
    rw [e] at hne ⊢
    obtain ⟨r1, r2, r3, r4⟩ := R t ht hne
    exact ⟨r1, r2, r3, by omega⟩
theorem Rch_phs {α : Mem} {n i : Nat} (H : Ok α n) (hi : i < n) : ∀ p a b, p < 1000 → Phs α n i p a b → Rch α n i a p → Rch α n i b 0 := by
  intro p
  induction p with
  | zero => intro a b _ h R; have h : b = a := h; rw [h]; exact R
  | succ p ih =>
    intro a b hp h R
    obtain ⟨c, h1, h2⟩ := h
    exact ih c b (by omega) h2 (Rch_pr H hi (by omega) h1 (fun s hs => hs) R)
theorem Phs_keep {α : Mem} {n i : Nat} : ∀ p a b, Phs α n i p a b → ∀ t, ¬ a t = -1 → b t = a t := by
  intro p
  induction p with
  | zero => intro a b h t _; have h : b = a := h; rw [h]
  | succ p ih =>
    intro a b h t ht
    obtain ⟨c, h1, h2⟩ := h
    have e : c t = a t := (h1 t).2 (fun w => ht w.1)
    rw [ih c b h2 t (by rw [e]; exact ht), e]
theorem Rch_0 {α : Mem} {n i : Nat} (H : Ok α n) (hi : i < n) {p : Nat} (hp : (p : Int) ≤ (α (7 + i) 9).toInt) : Rch α n i (pts0 α i) p := by
  obtain ⟨c1, c2⟩ := H.clJ hi
  obtain ⟨w1, w2⟩ := H.wyJ hi
  have hd := H.hdJ hi
  intro t ht hne
  unfold pts0 at hne ⊢
  rw [upt_at] at hne ⊢
  split at hne
  · next w =>
    rw [if_pos w, ← w.2, show (12 * (α (7 + i) 1).toNatClampNeg + (2 * hdA α (7 + i) + (α (7 + i) 14).toNatClampNeg)) / 12 = (α (7 + i) 1).toNatClampNeg by have := hd.1; omega, ← c1]
    have z := (fr_zero H (H.isC hi) (H.isC hi)).mpr rfl
    rw [z, ti0]
    exact ⟨H.isC hi, Or.inr rfl, by omega, hp⟩
  · exact absurd rfl hne
/-- the chart of a ship, as numbers -/
theorem chart {α : Mem} {n i : Nat} (S : Sg α n) (hi : i < n) : ∃ pv : Nat → Int32, (∀ x r, PV α n i x r → r = pv x) ∧ (∀ x, x < 144 → pv x = -1 ∨ (0 < α (7 + i) 3 ∧ isCellC α 4 (J x) ∧ (freeC α n (J x) ∨ J x = α (7 + i) 1) ∧ 0 ≤ (pv x).toInt ∧ (frC α (α (7 + i) 1) (J x)).toInt + (pv x).toInt ≤ (α (7 + i) 9).toInt)) ∧ (∀ r, RV α n i r → r = cntF (fun x => ¬ pv x = -1) (szN α) 0 0) ∧ (0 < α (7 + i) 3 → pv (α (7 + i) 1).toNatClampNeg = α (7 + i) 9) ∧ (¬ 0 < α (7 + i) 3 → ∀ x, pv x = -1) := by
  have H := S.1
  have hs := H.sz
  by_cases ha : 0 < α (7 + i) 3
  · obtain ⟨-, pF, -, -, -, -, ph⟩ := s3_y (z := (0, 0, 0, fun _ => 0)) (π := fun _ => 0) (β := α) (η := 0) (o := fun _ => 0) (od := fun _ => 0) H hi ha
    have hp := H.pts i hi
    obtain ⟨c1, c2⟩ := H.clJ hi
    obtain ⟨w1, w2⟩ := H.wyJ hi
    have hd := H.hdJ hi
    have hph : phN α i < 1000 ∧ (phN α i : Int) ≤ (α (7 + i) 9).toInt := by
      unfold phN
      have := (H.ptJ hi).2
      have e : ((α (7 + i) 9).toNatClampNeg : Int) = (α (7 + i) 9).toInt := by
        have : (α (7 + i) 9).toNatClampNeg = (α (7 + i) 9).toInt.toNat := rfl
        omega
      split <;> omega
    have R := Rch_phs H hi _ _ _ hph.1 ph (Rch_0 H hi hph.2)
    have V : Vd α pF := fun s h1 h2 => (R s h1 h2).1
    have le : ∀ t, t < 1728 → (pF t).toInt ≤ (α (7 + i) 9).toInt := fun t ht => by
      by_cases q : pF t = -1
      · rw [q, tim1]; omega
      · obtain ⟨r1, r2, r3, r4⟩ := R t ht q
        obtain ⟨m, m1, m2⟩ := far_bd H (H.isC hi) r1
        rw [m2, J_ti (by omega)] at r3
        omega
    refine ⟨mxP pF, fun x r h => PV_fun h (Or.inr ⟨ha, pF, ph, rfl⟩), fun x hx => ?_, fun r h => ?_, fun _ => ?_, fun w => absurd ha w⟩
    · obtain ⟨m1, m2, m3⟩ := mx_spec pF 12 (12 * x) (-1)
      rcases m3 with m3 | ⟨j, j1, j2, j3⟩
      · exact Or.inl m3
      · by_cases q : mxP pF x = -1
        · exact Or.inl q
        · right
          have j3 : pF j = mxP pF x := j3
          rw [← j3] at q ⊢
          obtain ⟨r1, r2, r3, r4⟩ := R j (by omega) q
          rw [show j / 12 = x by omega] at r1 r2 r3
          exact ⟨ha, r1, r2, r4, r3⟩
    · have e := RV_fun h (Or.inr ⟨ha, pF, ph, rfl⟩)
      rw [e]
      exact cnt_cut _ hs.2 (fun x h1 h2 w => w (Vd_mx H V h1 h2))
    · have t0 : 12 * (α (7 + i) 1).toNatClampNeg + (2 * hdA α (7 + i) + (α (7 + i) 14).toNatClampNeg) < 1728 := by have := hd.1; omega
      have e0 : pts0 α i (12 * (α (7 + i) 1).toNatClampNeg + (2 * hdA α (7 + i) + (α (7 + i) 14).toNatClampNeg)) = α (7 + i) 9 := by
        unfold pts0; rw [upt_at, if_pos ⟨rfl, rfl⟩]
      have nm : ¬ α (7 + i) 9 = -1 := by rw [i32_eq, tim1]; omega
      have e1 := Phs_keep _ _ _ ph _ (by rw [e0]; exact nm)
      rw [e0] at e1
      exact mx_eq (by omega) (fun b hb => le _ (by omega)) (Or.inr ⟨2 * hdA α (7 + i) + (α (7 + i) 14).toNatClampNeg, by have := hd.1; omega, e1⟩)
  · refine ⟨fun _ => -1, fun x r h => ?_, fun x _ => Or.inl rfl, fun r h => ?_, fun w => absurd w ha, fun _ _ => rfl⟩
    · rcases h with ⟨-, h⟩ | ⟨h, -⟩
      · exact h
      · exact absurd h ha
    · rcases h with ⟨-, h⟩ | ⟨h, -⟩
      · rw [h]; exact (cnt_none _ _ _ _ (fun c _ w => w rfl)).symm
      · exact absurd h ha
/-- the force of the shot number y: 2 * target + guns -/
def Fsh (α : Mem) (n i y : Nat) : Int32 := forceC α n i (J (y % 2)) (y / 2)
def BI (α : Mem) (n i m : Nat) (b : Int32 × Int32) : Prop := (b = (-1, 0) ∧ ∀ y, y < m → ¬ 0 < Fsh α n i y) ∨ ∃ x, x < m ∧ b.1 = J x ∧ b.2 = Fsh α n i x ∧ 0 < b.2 ∧ (∀ y, y < m → ¬ b.2 < Fsh α n i y) ∧ ∀ y, y < x → Fsh α n i y < b.2
theorem BI_st {α : Mem} {n i m : Nat} {b : Int32 × Int32} (h : BI α n i m b) {j : Nat} {g : Int32} (hx : 2 * J j + g = J m) (hf : forceC α n i g j = Fsh α n i m) : BI α n i (m + 1) (bsF α n i j g b) := by
  unfold bsF
  rw [hf, hx]
  by_cases q : b.2 < Fsh α n i m
  · rw [if_pos q]
    right
    refine ⟨m, by omega, rfl, rfl, ?_, fun y hy => ?_, fun y hy => ?_⟩
    · rcases h with ⟨h1, h2⟩ | ⟨x, h1, h2, h3, h4, h5, h6⟩
      · rw [h1] at q; exact q
      · rw [i32_lt] at h4 q ⊢; rw [ti0] at *; show 0 < (Fsh α n i m).toInt; omega
    · show ¬ Fsh α n i m < Fsh α n i y
      by_cases e : y = m
      · rw [e]; rw [i32_lt]; omega
      · rcases h with ⟨h1, h2⟩ | ⟨x, h1, h2, h3, h4, h5, h6⟩
        · have := h2 y (by omega); rw [h1] at q; rw [i32_lt] at *; have q : (0 : Int32).toInt < (Fsh α n i m).toInt := q; omega
        · have := h5 y (by omega); rw [i32_lt] at *; omega
    · show Fsh α n i y < Fsh α n i m
      rcases h with ⟨h1, h2⟩ | ⟨x, h1, h2, h3, h4, h5, h6⟩
      · have := h2 y hy; rw [h1] at q; rw [i32_lt] at *; have q : (0 : Int32).toInt < (Fsh α n i m).toInt := q; omega
      · have := h5 y hy; rw [i32_lt] at *; omega
  · rw [if_neg q]
    rcases h with ⟨h1, h2⟩ | ⟨x, h1, h2, h3, h4, h5, h6⟩
    · refine Or.inl ⟨h1, fun y hy => ?_⟩
      by_cases e : y = m
      · rw [e]; rw [h1] at q; exact q
      · exact h2 y (by omega)
    · refine Or.inr ⟨x, by omega, h2, h3, h4, fun y hy => ?_, h6⟩
      by_cases e : y = m
      · rw [e]; exact q
      · exact h5 y (by omega)
theorem BI_l {α : Mem} {n i : Nat} (h8 : n ≤ 8) : ∀ k j b, j + k = n → BI α n i (2 * j) b → BI α n i (2 * n) (bsL α n i k j b) := by
  intro k
  induction k with
  | zero => intro j b hj h; have : j = n := by omega
            subst this; exact h
  | succ k ih =>
    intro j b hj h
    rw [bsL]
    have tb := bs_tab j (by omega)
    have x0 : 2 * J j + 0 = J (2 * j) := tb.2.2.2.2.1
    have x1 : 2 * J j + 1 = J (2 * j + 1) := by rw [tb.2.2.2.2.2.1, J_succ]
    have f0 : forceC α n i 0 j = Fsh α n i (2 * j) := by unfold Fsh; rw [show 2 * j % 2 = 0 by omega, show 2 * j / 2 = j by omega]; rfl
    have f1 : forceC α n i 1 j = Fsh α n i (2 * j + 1) := by unfold Fsh; rw [show (2 * j + 1) % 2 = 1 by omega, show (2 * j + 1) / 2 = j by omega]; rfl
    exact ih (j + 1) _ (by omega) (BI_st (BI_st h x0 f0) x1 f1)
theorem best_ok {α : Mem} {n i : Nat} (h8 : n ≤ 8) : BI α n i (2 * n) (bsL α n i n 0 (-1, 0)) := BI_l h8 n 0 _ (by omega) (Or.inl ⟨rfl, fun y hy => by omega⟩)
theorem fw_ok (f : Nat → Int32) : ∀ k d b, (∀ e, e < d → ¬ f b < f e) → ∀ e, e < d + k → ¬ f (fwF f k d b) < f e := by
  intro k
  induction k with
  | zero => intro d b h e he; exact h e (by omega)
  | succ k ih =>
    intro d b h e he
    rw [fwF]
    refine ih (d + 1) _ (fun e he => ?_) e (by omega)
    by_cases q : f b < f d
    · rw [if_pos q]
      by_cases w : e = d
      · rw [w, i32_lt]; omega
      · have := h e (by omega); rw [i32_lt] at *; omega
    · rw [if_neg q]
      by_cases w : e = d
      · rw [w]; exact q
      · exact h e (by omega)
/-- a force: at most 144, and a multiple of the guns -/
theorem force_tab : ∀ g, g < 13 → ∀ m, m < 7 → (1 ≤ m → (J g * (7 - J m)).toInt ≤ 72 ∧ (2 * (J g * (7 - J m))).toInt ≤ 144) ∧ (1 ≤ g → J g * (7 - J m) - J g * (7 - J m) / J g * J g = 0 ∧ 2 * (J g * (7 - J m)) - 2 * (J g * (7 - J m)) / J g * J g = 0) ∧ (g = 0 → J g * (7 - J m) = 0 ∧ 2 * (J g * (7 - J m)) = 0) := by decide +kernel
theorem force_ok {α : Mem} {n i j : Nat} (S : Sg α n) (hi : i < n) (hj : j < n) (hij : i ≠ j) {r : Int32} (h : 0 < forceC α n i r j) : ¬ 144 < forceC α n i r j ∧ 0 < (if r = 0 then α (7 + i) 5 else α (7 + i) 6) ∧ forceC α n i r j - forceC α n i r j / (if r = 0 then α (7 + i) 5 else α (7 + i) 6) * (if r = 0 then α (7 + i) 5 else α (7 + i) 6) = 0 := by
  have H := S.1
  have CF := canF_of h
  obtain ⟨m, m1, m2⟩ := far_bd H (H.isC hi) (H.isC hj)
  have m7 : m < 7 := by
    have := CF.2.1
    rw [m2, i32_lt, J_ti (by omega), ti6] at this
    omega
  have m0 : 1 ≤ m := by
    have hne := S.2.1 i j hi hj hij CF.1.1 CF.1.2.1
    have := mt (fr_zero H (H.isC hi) (H.isC hj)).mp hne
    rw [m2, J0, J_eq (by omega) (by omega)] at this
    omega
  have hg : ∃ g, g < 13 ∧ (if r = 0 then α (7 + i) 5 else α (7 + i) 6) = J g := by
    have a := H.gl i hi; have b := H.gr i hi
    split
    · exact J_rng (k := 13) a.1 (by omega)
    · exact J_rng (k := 13) b.1 (by omega)
  obtain ⟨g, g1, g2⟩ := hg
  obtain ⟨t1, t2, t3⟩ := force_tab g g1 m m7
  have t1 := t1 m0
  unfold forceC at h ⊢
  rw [if_pos CF] at h ⊢
  unfold baseC at h ⊢
  rw [g2, m2] at h ⊢
  have g0 : 1 ≤ g := by
    rcases Nat.eq_zero_or_pos g with w | w
    · rw [(t3 w).1] at h
      split at h <;> exact absurd h (by decide)
    · exact w
  have t2 := t2 g0
  have t144 : (144 : Int32).toInt = 144 := rfl
  refine ⟨?_, by rw [i32_lt, J_ti (by omega), ti0]; omega, ?_⟩
  · rw [i32_lt, t144]; split <;> omega
  · split
    · exact t2.2
    · exact t2.1
theorem force_other {α : Mem} {n i j : Nat} {r r' : Int32} (h : 0 < forceC α n i r j) (hr : ¬ r' = r) : forceC α n i r' j = 0 := by
  have CF := canF_of h
  unfold forceC
  rw [if_neg (fun w => hr (w.2.2.1.symm.trans CF.2.2.1))]
