/-! the objects made at the law's beginning: heaps as plain functions -/
def upF (f : Nat → va_E) (a : Nat) (e : va_E) : Nat → va_E := fun j => if j = a then e else f j
theorem upF_at (f : Nat → va_E) (a : Nat) (e : va_E) : upF f a e a = e := by unfold upF; rw [if_pos rfl]
theorem upF_ne (f : Nat → va_E) {a j : Nat} (h : j ≠ a) (e : va_E) : upF f a e j = f j := by unfold upF; rw [if_neg h]
section S73
variable {n c s : Nat} {f : Nat → va_E}
theorem hnew_t (e : va_E) (k : Nat) : hnew (n, c, s, f) e k = (n + 1, c + 1, s + k, upF f n e) := rfl
theorem gf_t {ci k a : Nat} {fs : List Value} (h : f a = .inr (ci, fs)) : gf (n, c, s, f) ci k a = fs[k]? := by
  unfold gf
  dsimp only
  rw [h]
  dsimp only
  rw [if_pos rfl]
theorem pf_t {ci k a : Nat} {fs : List Value} {v : Value} (h : f a = .inr (ci, fs)) (hk : k < fs.length) (hv : fitV (yC ci k) v = true) : pf (n, c, s, f) ci k a v = some (n, c, s, upF f a (.inr (ci, fs.set k v))) := by
  unfold pf
  dsimp only
  rw [h]
  dsimp only
  rw [if_pos ⟨rfl, hk, hv⟩]
  rfl
theorem isO_t {ci a : Nat} {fs : List Value} (h : f a = .inr (ci, fs)) : isO (n, c, s, f) a ci = true := by
  unfold isO
  dsimp only
  rw [h]
  simp
theorem paI_t {a N : Nat} {q : Nat → Int32} {i v : Int32} (h : f a = .inl (0, N, .inl q)) (h3 : 3 ≤ a) (hi : inB i N = true) : paI (n, c, s, f) a i v = some (n, c, s, upF f a (.inl (0, N, .inl (upd q i.toNatClampNeg v)))) := by
  unfold paI
  dsimp only
  rw [h]
  dsimp only
  rw [if_pos ⟨rfl, hi, h3⟩]
  rfl
theorem alen_t {a t N : Nat} {q : _} (h : f a = .inl (t, N, q)) : alen (n, c, s, f) a = some N := by
  unfold alen
  dsimp only
  rw [h]
theorem paR_t {a t N v : Nat} {q : Nat → Option Nat} {i : Int32} (h : f a = .inl (t, N, .inr (.inr (.inr (.inr q))))) (ht : t = 1 ∨ t = 2) (hi : inB i N = true) (hv : isO (n, c, s, f) v (elC t) = true) : paR (n, c, s, f) a i v = some (n, c, s, upF f a (.inl (t, N, .inr (.inr (.inr (.inr (va_up q i.toNatClampNeg (some v)))))))) := by
  unfold paR
  dsimp only
  rw [h]
  dsimp only
  rw [if_pos ⟨ht, hi, hv⟩]
  rfl
theorem fit0_0 (x : Nat) : fitV (yC 0 0) (.ref x) = true := by simp [fitV, yC, narrow, fits, tyX0]
theorem fit0_1 (x : Nat) : fitV (yC 0 1) (.ref x) = true := by simp [fitV, yC, narrow, fits, tyX0]
theorem fit0_2 (x : Nat) : fitV (yC 0 2) (.ref x) = true := by simp [fitV, yC, narrow, fits, tyX0]
theorem fit0_3 (x : Nat) : fitV (yC 0 3) (.ref x) = true := by simp [fitV, yC, narrow, fits, tyX0]
theorem fit0_4 (x : Int32) : fitV (yC 0 4) (.int x) = true := by simp [fitV, yC, narrow, fits, tyX0]
theorem fit0_5 (x : Int32) : fitV (yC 0 5) (.int x) = true := by simp [fitV, yC, narrow, fits, tyX0]
theorem bl0 : blankO 0 = .inr (0, [.null, .null, .null, .null, .int 0, .int 0]) := rfl
theorem fit1_0 (x : Nat) : fitV (yC 1 0) (.ref x) = true := by simp [fitV, yC, narrow, fits, tyX1]
theorem bl1 : blankO 1 = .inr (1, [.null]) := rfl
theorem fit2_0 (x : Nat) : fitV (yC 2 0) (.ref x) = true := by simp [fitV, yC, narrow, fits, tyX2]
theorem bl2 : blankO 2 = .inr (2, [.null]) := rfl
theorem fit3_0 (x : Nat) : fitV (yC 3 0) (.ref x) = true := by simp [fitV, yC, narrow, fits, tyX3]
theorem bl3 : blankO 3 = .inr (3, [.null]) := rfl
theorem fit4_0 (x : Nat) : fitV (yC 4 0) (.ref x) = true := by simp [fitV, yC, narrow, fits, tyX4]
theorem fit4_1 (x : Int32) : fitV (yC 4 1) (.int x) = true := by simp [fitV, yC, narrow, fits, tyX4]
theorem bl4 : blankO 4 = .inr (4, [.null, .int 0]) := rfl
theorem fit5_0 (x : Nat) : fitV (yC 5 0) (.ref x) = true := by simp [fitV, yC, narrow, fits, tyX5]
theorem fit5_1 (x : Int32) : fitV (yC 5 1) (.int x) = true := by simp [fitV, yC, narrow, fits, tyX5]
theorem bl5 : blankO 5 = .inr (5, [.null, .int 0]) := rfl
theorem fit6_0 (x : Int32) : fitV (yC 6 0) (.int x) = true := by simp [fitV, yC, narrow, fits, tyX6]
theorem fit6_1 (x : Int32) : fitV (yC 6 1) (.int x) = true := by simp [fitV, yC, narrow, fits, tyX6]
theorem fit6_2 (x : Int32) : fitV (yC 6 2) (.int x) = true := by simp [fitV, yC, narrow, fits, tyX6]
theorem fit6_3 (x : Int32) : fitV (yC 6 3) (.int x) = true := by simp [fitV, yC, narrow, fits, tyX6]
theorem fit6_4 (x : Int32) : fitV (yC 6 4) (.int x) = true := by simp [fitV, yC, narrow, fits, tyX6]
theorem fit6_5 (x : Int32) : fitV (yC 6 5) (.int x) = true := by simp [fitV, yC, narrow, fits, tyX6]
theorem fit6_6 (x : Nat) : fitV (yC 6 6) (.ref x) = true := by simp [fitV, yC, narrow, fits, tyX6]
theorem fit6_7 (x : Nat) : fitV (yC 6 7) (.ref x) = true := by simp [fitV, yC, narrow, fits, tyX6]
theorem bl6 : blankO 6 = .inr (6, [.int 0, .int 0, .int 0, .int 0, .int 0, .int 0, .null, .null]) := rfl
theorem bl7 : blankO 7 = .inr (7, [.int 0, .int 0, .int 0, .int 0, .int 0, .int 0, .int 0, .int 0, .int 0, .int 0, .int 0, .int 0, .int 0, .int 0, .int 0]) := rfl
theorem fit8_0 (x : Nat) : fitV (yC 8 0) (.ref x) = true := by simp [fitV, yC, narrow, fits, tyX8]
theorem fit8_1 (x : Nat) : fitV (yC 8 1) (.ref x) = true := by simp [fitV, yC, narrow, fits, tyX8]
theorem fit8_2 (x : Nat) : fitV (yC 8 2) (.ref x) = true := by simp [fitV, yC, narrow, fits, tyX8]
theorem fit8_3 (x : Nat) : fitV (yC 8 3) (.ref x) = true := by simp [fitV, yC, narrow, fits, tyX8]
theorem fit8_4 (x : Nat) : fitV (yC 8 4) (.ref x) = true := by simp [fitV, yC, narrow, fits, tyX8]
theorem fit8_5 (x : Nat) : fitV (yC 8 5) (.ref x) = true := by simp [fitV, yC, narrow, fits, tyX8]
theorem fit8_6 (x : Nat) : fitV (yC 8 6) (.ref x) = true := by simp [fitV, yC, narrow, fits, tyX8]
theorem bl8 : blankO 8 = .inr (8, [.null, .null, .null, .null, .null, .null, .null]) := rfl
theorem g212_l {r N : Nat} (h3 : 3 ≤ r) (hN : N < 3000) (v : Int32) (q : Nat → Int32) : ∀ k i (f : Nat → va_E), i + k = N → f r = .inl (0, N, .inl (fun m => if m < i then v else q m)) → ∃ f', Run 118 5 [some (.ref r), some (.int v), some (.int (J i)), some (.int (J N))] [] (n, c, s, f) = some (.inl none, (n, c, s, f')) ∧ f' r = .inl (0, N, .inl (fun m => if m < N then v else q m)) ∧ ∀ j, j ≠ r → f' j = f j := by
  intro k
  induction k with
  | zero =>
    intro i f hi h
    have : i = N := by omega
    subst this
    refine ⟨f, ?_, h, fun _ _ => rfl⟩
    simp only [↓reduceIte, e118_0, e118_1, e118_2, e118_3, e118_4, e118_5, e118_6, e118_7, e118_10, e118_11, e118_12, e118_13, e118_14, e118_17, e118_20, Int32.le_refl, aft_v, aft_n, Option.bind_some, rf_some, ck_i, ck_r, ck_n, nb0, nb1, nbi, Nat.reduceAdd, if_true, if_false, not_false_eq_true, not_true_eq_false]
  | succ k ih =>
    intro i f hi h
    have hp := paI_t (n := n) (c := c) (s := s) (i := J i) (v := v) h h3 (inB_J (show i < N by omega) (by omega))
    rw [J_tn (by omega)] at hp
    have e : upd (fun m => if m < i then v else q m) i v = fun m => if m < i + 1 then v else q m := by
      funext m
      unfold upd
      by_cases w : m = i
      · rw [if_pos w, if_pos (by omega)]
      · rw [if_neg w]
        show (if m < i then v else q m) = _
        by_cases w2 : m < i
        · rw [if_pos w2, if_pos (by omega)]
        · rw [if_neg w2, if_neg (by omega)]
    rw [e] at hp
    obtain ⟨f', a1, a2, a3⟩ := ih (i + 1) _ (by omega) (upF_at f r (.inl (0, N, .inl (fun m => if m < i + 1 then v else q m))))
    refine ⟨f', ?_, a2, fun j hj => by rw [a3 j hj, upF_ne _ hj]⟩
    rw [← a1, e118_5]
    simp only [↓reduceIte, e118_0, e118_1, e118_2, e118_3, e118_4, e118_6, e118_7, e118_10, e118_11, e118_12, e118_13, e118_14, e118_17, e118_20, J_le (show N < 2147483648 by omega) (show i < 2147483648 by omega), show ¬ N ≤ i by omega, hp, J_succ, aft_v, aft_n, Option.bind_some, rf_some, ck_i, ck_r, ck_n, nb0, nb1, nbi, Nat.reduceAdd, if_true, if_false, not_false_eq_true, not_true_eq_false]
theorem g212 {r N : Nat} (h3 : 3 ≤ r) (hN : N < 3000) (v : Int32) (q : Nat → Int32) (h : f r = .inl (0, N, .inl q)) : ∃ f', Run 118 0 [some (.ref r), some (.int v), none, none] [] (n, c, s, f) = some (.inl none, (n, c, s, f')) ∧ f' r = .inl (0, N, .inl (fun m => if m < N then v else q m)) ∧ ∀ j, j ≠ r → f' j = f j := by
  obtain ⟨f', a1, a2, a3⟩ := g212_l (n := n) (c := c) (s := s) h3 hN v q N 0 f (by omega) h
  refine ⟨f', ?_, a2, a3⟩
  rw [← a1]
  simp only [e118_0, e118_1, e118_2, e118_3, e118_4, alen_t h, J0, aft_v, aft_n, Option.bind_some, rf_some, ck_i, ck_r, ck_n, nb0, nb1, nbi, Nat.reduceAdd, if_true, if_false, not_false_eq_true, not_true_eq_false]
theorem g41 {a r d : Nat} {v0 v1 v2 v3 v4 v5 : Int32} {q : Nat → Int32} (h : f a = (.inr (6, [(.int v0), (.int v1), (.int v2), (.int v3), (.int v4), (.int v5), .ref r, .ref d]))) (hr : f r = .inl (0, 144, .inl q)) (har : r ≠ a) (h3 : 3 ≤ r) (x y : Int32) : ∃ f', Run 41 0 [some (.ref a), some (.int x), some (.int y)] [] (n, c, s, f) = some (.inl none, (n, c, s, f')) ∧ f' a = (.inr (6, [(.int x), (.int y), (.int 0), (.int 2), (.int 1), (.int 0), .ref r, .ref d])) ∧ f' r = .inl (0, 144, .inl (fun m => if m < 144 then 0 else q m)) ∧ ∀ j, j ≠ a → j ≠ r → f' j = f j := by
  have p0 : pf (n, c, s, f) 6 0 a (.int x) = some (n, c, s, (upF f a (.inr (6, [(.int x), (.int v1), (.int v2), (.int v3), (.int v4), (.int v5), .ref r, .ref d])))) := pf_t h (by show 0 < 8; omega) (fit6_0 _)
  have p1 : pf (n, c, s, (upF f a (.inr (6, [(.int x), (.int v1), (.int v2), (.int v3), (.int v4), (.int v5), .ref r, .ref d])))) 6 1 a (.int y) = some (n, c, s, (upF (upF f a (.inr (6, [(.int x), (.int v1), (.int v2), (.int v3), (.int v4), (.int v5), .ref r, .ref d]))) a (.inr (6, [(.int x), (.int y), (.int v2), (.int v3), (.int v4), (.int v5), .ref r, .ref d])))) := pf_t (upF_at _ _ _) (by show 1 < 8; omega) (fit6_1 _)
  have p2 : pf (n, c, s, (upF (upF f a (.inr (6, [(.int x), (.int v1), (.int v2), (.int v3), (.int v4), (.int v5), .ref r, .ref d]))) a (.inr (6, [(.int x), (.int y), (.int v2), (.int v3), (.int v4), (.int v5), .ref r, .ref d])))) 6 2 a (.int 0) = some (n, c, s, (upF (upF (upF f a (.inr (6, [(.int x), (.int v1), (.int v2), (.int v3), (.int v4), (.int v5), .ref r, .ref d]))) a (.inr (6, [(.int x), (.int y), (.int v2), (.int v3), (.int v4), (.int v5), .ref r, .ref d]))) a (.inr (6, [(.int x), (.int y), (.int 0), (.int v3), (.int v4), (.int v5), .ref r, .ref d])))) := pf_t (upF_at _ _ _) (by show 2 < 8; omega) (fit6_2 _)
  have p3 : pf (n, c, s, (upF (upF (upF f a (.inr (6, [(.int x), (.int v1), (.int v2), (.int v3), (.int v4), (.int v5), .ref r, .ref d]))) a (.inr (6, [(.int x), (.int y), (.int v2), (.int v3), (.int v4), (.int v5), .ref r, .ref d]))) a (.inr (6, [(.int x), (.int y), (.int 0), (.int v3), (.int v4), (.int v5), .ref r, .ref d])))) 6 3 a (.int 2) = some (n, c, s, (upF (upF (upF (upF f a (.inr (6, [(.int x), (.int v1), (.int v2), (.int v3), (.int v4), (.int v5), .ref r, .ref d]))) a (.inr (6, [(.int x), (.int y), (.int v2), (.int v3), (.int v4), (.int v5), .ref r, .ref d]))) a (.inr (6, [(.int x), (.int y), (.int 0), (.int v3), (.int v4), (.int v5), .ref r, .ref d]))) a (.inr (6, [(.int x), (.int y), (.int 0), (.int 2), (.int v4), (.int v5), .ref r, .ref d])))) := pf_t (upF_at _ _ _) (by show 3 < 8; omega) (fit6_3 _)
  have p4 : pf (n, c, s, (upF (upF (upF (upF f a (.inr (6, [(.int x), (.int v1), (.int v2), (.int v3), (.int v4), (.int v5), .ref r, .ref d]))) a (.inr (6, [(.int x), (.int y), (.int v2), (.int v3), (.int v4), (.int v5), .ref r, .ref d]))) a (.inr (6, [(.int x), (.int y), (.int 0), (.int v3), (.int v4), (.int v5), .ref r, .ref d]))) a (.inr (6, [(.int x), (.int y), (.int 0), (.int 2), (.int v4), (.int v5), .ref r, .ref d])))) 6 4 a (.int 1) = some (n, c, s, (upF (upF (upF (upF (upF f a (.inr (6, [(.int x), (.int v1), (.int v2), (.int v3), (.int v4), (.int v5), .ref r, .ref d]))) a (.inr (6, [(.int x), (.int y), (.int v2), (.int v3), (.int v4), (.int v5), .ref r, .ref d]))) a (.inr (6, [(.int x), (.int y), (.int 0), (.int v3), (.int v4), (.int v5), .ref r, .ref d]))) a (.inr (6, [(.int x), (.int y), (.int 0), (.int 2), (.int v4), (.int v5), .ref r, .ref d]))) a (.inr (6, [(.int x), (.int y), (.int 0), (.int 2), (.int 1), (.int v5), .ref r, .ref d])))) := pf_t (upF_at _ _ _) (by show 4 < 8; omega) (fit6_4 _)
  have p5 : pf (n, c, s, (upF (upF (upF (upF (upF f a (.inr (6, [(.int x), (.int v1), (.int v2), (.int v3), (.int v4), (.int v5), .ref r, .ref d]))) a (.inr (6, [(.int x), (.int y), (.int v2), (.int v3), (.int v4), (.int v5), .ref r, .ref d]))) a (.inr (6, [(.int x), (.int y), (.int 0), (.int v3), (.int v4), (.int v5), .ref r, .ref d]))) a (.inr (6, [(.int x), (.int y), (.int 0), (.int 2), (.int v4), (.int v5), .ref r, .ref d]))) a (.inr (6, [(.int x), (.int y), (.int 0), (.int 2), (.int 1), (.int v5), .ref r, .ref d])))) 6 5 a (.int 0) = some (n, c, s, (upF (upF (upF (upF (upF (upF f a (.inr (6, [(.int x), (.int v1), (.int v2), (.int v3), (.int v4), (.int v5), .ref r, .ref d]))) a (.inr (6, [(.int x), (.int y), (.int v2), (.int v3), (.int v4), (.int v5), .ref r, .ref d]))) a (.inr (6, [(.int x), (.int y), (.int 0), (.int v3), (.int v4), (.int v5), .ref r, .ref d]))) a (.inr (6, [(.int x), (.int y), (.int 0), (.int 2), (.int v4), (.int v5), .ref r, .ref d]))) a (.inr (6, [(.int x), (.int y), (.int 0), (.int 2), (.int 1), (.int v5), .ref r, .ref d]))) a (.inr (6, [(.int x), (.int y), (.int 0), (.int 2), (.int 1), (.int 0), .ref r, .ref d])))) := pf_t (upF_at _ _ _) (by show 5 < 8; omega) (fit6_5 _)
  have g6 : gf (n, c, s, (upF (upF (upF (upF (upF (upF f a (.inr (6, [(.int x), (.int v1), (.int v2), (.int v3), (.int v4), (.int v5), .ref r, .ref d]))) a (.inr (6, [(.int x), (.int y), (.int v2), (.int v3), (.int v4), (.int v5), .ref r, .ref d]))) a (.inr (6, [(.int x), (.int y), (.int 0), (.int v3), (.int v4), (.int v5), .ref r, .ref d]))) a (.inr (6, [(.int x), (.int y), (.int 0), (.int 2), (.int v4), (.int v5), .ref r, .ref d]))) a (.inr (6, [(.int x), (.int y), (.int 0), (.int 2), (.int 1), (.int v5), .ref r, .ref d]))) a (.inr (6, [(.int x), (.int y), (.int 0), (.int 2), (.int 1), (.int 0), .ref r, .ref d])))) 6 6 a = some (.ref r) := gf_t (upF_at _ _ _)
  have hr6 : (upF (upF (upF (upF (upF (upF f a (.inr (6, [(.int x), (.int v1), (.int v2), (.int v3), (.int v4), (.int v5), .ref r, .ref d]))) a (.inr (6, [(.int x), (.int y), (.int v2), (.int v3), (.int v4), (.int v5), .ref r, .ref d]))) a (.inr (6, [(.int x), (.int y), (.int 0), (.int v3), (.int v4), (.int v5), .ref r, .ref d]))) a (.inr (6, [(.int x), (.int y), (.int 0), (.int 2), (.int v4), (.int v5), .ref r, .ref d]))) a (.inr (6, [(.int x), (.int y), (.int 0), (.int 2), (.int 1), (.int v5), .ref r, .ref d]))) a (.inr (6, [(.int x), (.int y), (.int 0), (.int 2), (.int 1), (.int 0), .ref r, .ref d]))) r = .inl (0, 144, .inl q) := by simp only [upF_ne _ har]; exact hr
  obtain ⟨f', a1, a2, a3⟩ := g212 (n := n) (c := c) (s := s) h3 (by omega) 0 q hr6
  refine ⟨f', ?_, by rw [a3 a (fun w => har w.symm), upF_at], a2, fun j h1 h2 => by rw [a3 j h2]; simp only [upF_ne _ h1]⟩
  simp only [↓reduceIte, e41_0, e41_1, e41_2, e41_5, e41_6, e41_7, e41_10, e41_11, e41_12, e41_15, e41_16, e41_17, e41_20, e41_21, e41_22, e41_25, e41_26, e41_27, e41_30, e41_31, e41_34, e41_35, e41_38, p0, p1, p2, p3, p4, p5, g6, a1, aft_v, aft_n, Option.bind_some, rf_some, ck_i, ck_r, ck_n, nb0, nb1, nbi, Nat.reduceAdd, if_true, if_false, not_false_eq_true, not_true_eq_false]
theorem s70 (a : Nat) (h : Hp) : Run 70 0 [some (.ref a)] [] h = some (.inl none, h) := by simp only [e70_0, e70_1, e70_4]
def rfN (b i : Nat) : Nat → Option Nat := fun m => if m < i then some (b + m) else none
theorem rfN_st (b i : Nat) : va_up (rfN b i) i (some (b + i)) = rfN b (i + 1) := by
  funext m
  unfold va_up rfN
  by_cases w : m = i
  · rw [if_pos w, if_pos (by omega), w]
  · rw [if_neg w]
    by_cases w2 : m < i
    · rw [if_pos w2, if_pos (by omega)]
    · rw [if_neg w2, if_neg (by omega)]
theorem rfN_0 (b : Nat) : rfN b 0 = fun _ => none := by funext m; unfold rfN; rw [if_neg (by omega)]
def seaO (B : Nat) : va_E := .inr (6, [.int 10, .int 8, .int 0, .int 2, .int 1, .int 0, .ref (B + 1), .ref (B + 2)])
def SeaAt (g : Nat → va_E) (B : Nat) : Prop := g B = seaO B ∧ g (B + 1) = .inl (0, 144, .inl (fun _ => 0)) ∧ g (B + 2) = .inl (1, 8, .inr (.inr (.inr (.inr (rfN (B + 3) 8))))) ∧ ∀ m, m < 8 → g (B + 3 + m) = blankO 7
theorem SeaAt_cg {g g' : Nat → va_E} {B : Nat} (h : ∀ j, B ≤ j → j < B + 11 → g' j = g j) (S : SeaAt g B) : SeaAt g' B :=
  ⟨by rw [h B (by omega) (by omega)]; exact S.1, by rw [h _ (by omega) (by omega)]; exact S.2.1, by rw [h _ (by omega) (by omega)]; exact S.2.2.1, fun m hm => by rw [h _ (by omega) (by omega)]; exact S.2.2.2 m hm⟩
theorem g40_l {B : Nat} (hB : 3 ≤ B) : ∀ k i (c s : Nat) (g : Nat → va_E), i + k = 8 → g B = (.inr (6, [.int 0, .int 0, .int 0, .int 0, .int 0, .int 0, .ref (B + 1), .ref (B + 2)])) → g (B + 2) = .inl (1, 8, .inr (.inr (.inr (.inr (rfN (B + 3) i))))) → (∀ m, m < i → g (B + 3 + m) = blankO 7) → ∃ c' s' g', Run 40 24 [some (.ref B), some (.int (J i))] [] (B + 3 + i, c, s, g) = Run 40 49 [some (.ref B), some (.int (J 8))] [] (B + 11, c', s', g') ∧ c' ≤ c + k ∧ s' ≤ s + 15 * k ∧ g' B = (.inr (6, [.int 0, .int 0, .int 0, .int 0, .int 0, .int 0, .ref (B + 1), .ref (B + 2)])) ∧ g' (B + 2) = .inl (1, 8, .inr (.inr (.inr (.inr (rfN (B + 3) 8))))) ∧ (∀ m, m < 8 → g' (B + 3 + m) = blankO 7) ∧ ∀ j, (j < B + 2 ∨ B + 11 ≤ j) → g' j = g j := by
  intro k
  induction k with
  | zero =>
    intro i c s g hi h1 h2 h3
    have : i = 8 := by omega
    subst this
    refine ⟨c, s, g, ?_, by omega, by omega, h1, h2, h3, fun _ _ => rfl⟩
    simp only [↓reduceIte, e40_0, e40_1, e40_4, e40_5, e40_8, e40_10, e40_13, e40_14, e40_16, e40_19, e40_22, e40_23, e40_24, e40_25, e40_27, e40_30, e40_31, e40_34, e40_35, e40_38, e40_39, e40_42, e40_43, e40_46, e40_50, e40_52, e40_54, e40_57, show (8 : Int32) = J 8 from rfl, Int32.le_refl, aft_v, aft_n, Option.bind_some, rf_some, ck_i, ck_r, ck_n, nb0, nb1, nbi, Nat.reduceAdd, if_true, if_false, not_false_eq_true, not_true_eq_false]
  | succ k ih =>
    intro i c s g hi h1 h2 h3
    have q1 : gf (B + 3 + i, c, s, g) 6 7 B = some (.ref (B + 2)) := gf_t h1
    have hO : isO (B + 3 + i + 1, c + 1, s + 15, upF g (B + 3 + i) (blankO 7)) (B + 3 + i) (elC 1) = true := by
      have : upF g (B + 3 + i) (blankO 7) (B + 3 + i) = .inr (7, [.int 0, .int 0, .int 0, .int 0, .int 0, .int 0, .int 0, .int 0, .int 0, .int 0, .int 0, .int 0, .int 0, .int 0, .int 0]) := upF_at _ _ _
      exact isO_t this
    have h2' : upF g (B + 3 + i) (blankO 7) (B + 2) = .inl (1, 8, .inr (.inr (.inr (.inr (rfN (B + 3) i))))) := by rw [upF_ne _ (by omega)]; exact h2
    have q2 := paR_t (n := B + 3 + i + 1) (c := c + 1) (s := s + 15) (i := J i) h2' (Or.inl rfl) (inB_J (show i < 8 by omega) (by omega)) hO
    rw [J_tn (by omega), rfN_st] at q2
    obtain ⟨c', s', g', a1, a2, a3, a4, a5, a6, a7⟩ := ih (i + 1) (c + 1) (s + 15) (upF (upF g (B + 3 + i) (blankO 7)) (B + 2) (.inl (1, 8, .inr (.inr (.inr (.inr (rfN (B + 3) (i + 1)))))))) (by omega) (by rw [upF_ne _ (by omega), upF_ne _ (by omega)]; exact h1) (upF_at _ _ _) (fun m hm => by
      rw [upF_ne _ (by omega)]
      by_cases w : m = i
      · subst w; rw [upF_at]
      · rw [upF_ne _ (by omega)]; exact h3 m (by omega))
    refine ⟨c', s', g', ?_, by omega, by omega, a4, a5, a6, fun j hj => by rw [a7 j hj, upF_ne _ (by omega), upF_ne _ (by omega)]⟩
    rw [← a1, e40_24]
    simp only [↓reduceIte, e40_0, e40_1, e40_4, e40_5, e40_8, e40_10, e40_13, e40_14, e40_16, e40_19, e40_22, e40_23, e40_25, e40_27, e40_30, e40_31, e40_34, e40_35, e40_38, e40_39, e40_42, e40_43, e40_46, e40_50, e40_52, e40_54, e40_57, show (8 : Int32) = J 8 from rfl, J_le (show 8 < 2147483648 by omega) (show i < 2147483648 by omega), show ¬ 8 ≤ i by omega, q1, hnew_t, s70, q2, J_succ, aft_v, aft_n, Option.bind_some, rf_some, ck_i, ck_r, ck_n, nb0, nb1, nbi, Nat.reduceAdd, if_true, if_false, not_false_eq_true, not_true_eq_false]
    rfl
theorem g40 {B : Nat} (hB : 3 ≤ B) (h : f B = blankO 6) : ∃ c' s' f', Run 40 0 [some (.ref B), none] [] (B + 1, c, s, f) = some (.inl none, (B + 11, c', s', f')) ∧ c' ≤ c + 10 ∧ s' ≤ s + 272 ∧ SeaAt f' B ∧ ∀ j, (j < B ∨ B + 11 ≤ j) → f' j = f j := by
  have k1 : upF f (B + 1) (.inl (0, 144, .inl (fun _ => 0))) B = .inr (6, [.int 0, .int 0, .int 0, .int 0, .int 0, .int 0, .null, .null]) := by rw [upF_ne _ (by omega), h]; rfl
  have p1 : pf (B + 1 + 1, c + 1, s + 144, upF f (B + 1) (.inl (0, 144, .inl (fun _ => 0)))) 6 6 B (.ref (B + 1)) = some (B + 1 + 1, c + 1, s + 144, upF (upF f (B + 1) (.inl (0, 144, .inl (fun _ => 0)))) B (.inr (6, [.int 0, .int 0, .int 0, .int 0, .int 0, .int 0, .ref (B + 1), .null]))) := pf_t k1 (by show 6 < 8; omega) (fit6_6 _)
  have k2 : upF (upF (upF f (B + 1) (.inl (0, 144, .inl (fun _ => 0)))) B (.inr (6, [.int 0, .int 0, .int 0, .int 0, .int 0, .int 0, .ref (B + 1), .null]))) (B + 1 + 1) (blank0 1 8) B = (.inr (6, [.int 0, .int 0, .int 0, .int 0, .int 0, .int 0, .ref (B + 1), .null])) := by rw [upF_ne _ (by omega), upF_at]
  have p2 : pf (B + 1 + 1 + 1, c + 1 + 1, s + 144 + 8, upF (upF (upF f (B + 1) (.inl (0, 144, .inl (fun _ => 0)))) B (.inr (6, [.int 0, .int 0, .int 0, .int 0, .int 0, .int 0, .ref (B + 1), .null]))) (B + 1 + 1) (blank0 1 8)) 6 7 B (.ref (B + 1 + 1)) = some (B + 1 + 1 + 1, c + 1 + 1, s + 144 + 8, upF (upF (upF (upF f (B + 1) (.inl (0, 144, .inl (fun _ => 0)))) B (.inr (6, [.int 0, .int 0, .int 0, .int 0, .int 0, .int 0, .ref (B + 1), .null]))) (B + 1 + 1) (blank0 1 8)) B (.inr (6, [.int 0, .int 0, .int 0, .int 0, .int 0, .int 0, .ref (B + 1), .ref (B + 2)]))) := pf_t k2 (by show 7 < 8; omega) (fit6_7 _)
  have e0 : blank0 1 8 = .inl (1, 8, .inr (.inr (.inr (.inr (rfN (B + 3) 0))))) := by rw [rfN_0]; rfl
  obtain ⟨c', s', g, a1, a2, a3, a4, a5, a6, a7⟩ := g40_l hB 8 0 (c + 1 + 1) (s + 144 + 8) (upF (upF (upF (upF f (B + 1) (.inl (0, 144, .inl (fun _ => 0)))) B (.inr (6, [.int 0, .int 0, .int 0, .int 0, .int 0, .int 0, .ref (B + 1), .null]))) (B + 1 + 1) (blank0 1 8)) B (.inr (6, [.int 0, .int 0, .int 0, .int 0, .int 0, .int 0, .ref (B + 1), .ref (B + 2)]))) (by omega) (upF_at _ _ _) (by rw [upF_ne _ (by omega), ← e0]; exact upF_at _ _ _) (fun m hm => absurd hm (Nat.not_lt_zero m))
  have k3 : g (B + 1) = .inl (0, 144, .inl (fun _ => 0)) := by rw [a7 _ (by omega), upF_ne _ (by omega), upF_ne _ (by omega), upF_ne _ (by omega), upF_at]
  obtain ⟨f', b1, b2, b3, b4⟩ := g41 (n := B + 11) (c := c') (s := s') a4 k3 (by omega) (by omega) 10 8
  have z0 : (fun m => if m < 144 then (0 : Int32) else (fun _ => 0) m) = fun _ => 0 := by funext m; split <;> rfl
  rw [z0] at b3
  refine ⟨c', s', f', ?_, by omega, by omega, ⟨b2, b3, ?_, fun m hm => ?_⟩, fun j hj => ?_⟩
  · rw [show J 0 = (0 : Int32) from rfl] at a1
    have i6 : isO (B + 11, c', s', g) B 6 = true := isO_t a4
    have st : Run 40 0 [some (.ref B), none] [] (B + 1, c, s, f) = Run 40 24 [some (.ref B), some (.int 0)] [] (B + 3 + 0, c + 1 + 1, s + 144 + 8, upF (upF (upF (upF f (B + 1) (.inl (0, 144, .inl (fun _ => 0)))) B (.inr (6, [.int 0, .int 0, .int 0, .int 0, .int 0, .int 0, .ref (B + 1), .null]))) (B + 1 + 1) (blank0 1 8)) B (.inr (6, [.int 0, .int 0, .int 0, .int 0, .int 0, .int 0, .ref (B + 1), .ref (B + 2)]))) := by
      have t144 : (144 : Int32).toNatClampNeg = 144 := rfl
      have t8 : (8 : Int32).toNatClampNeg = 8 := rfl
      have eb : blank0 0 144 = (.inl (0, 144, .inl (fun _ => 0))) := rfl
      simp only [↓reduceIte, e40_0, e40_1, e40_4, e40_5, e40_10, e40_13, e40_14, e40_19, e40_22, e40_23, e40_25, e40_27, e40_30, e40_31, e40_34, e40_35, e40_38, e40_39, e40_42, e40_43, e40_46, e40_49, e40_50, e40_52, e40_54, e40_57, e40_8 (show ¬ (144 : Int32) < 0 ∧ (144 : Int32).toNatClampNeg ≤ 60000 by decide), e40_16 (show ¬ (8 : Int32) < 0 ∧ (8 : Int32).toNatClampNeg ≤ 60000 by decide), t144, t8, hnew_t, eb, p1, p2, aft_v, aft_n, Option.bind_some, rf_some, ck_i, ck_r, ck_n, nb0, nb1, nbi, Nat.reduceAdd, if_true, if_false, not_false_eq_true, not_true_eq_false]
    rw [st, a1]
    simp only [↓reduceIte, e40_0, e40_1, e40_4, e40_5, e40_8, e40_10, e40_13, e40_14, e40_16, e40_19, e40_22, e40_23, e40_25, e40_27, e40_30, e40_31, e40_34, e40_35, e40_38, e40_39, e40_42, e40_43, e40_46, e40_49, e40_50, e40_52, e40_54, e40_57, i6, b1, aft_v, aft_n, Option.bind_some, rf_some, ck_i, ck_r, ck_n, nb0, nb1, nbi, Nat.reduceAdd, if_true, if_false, not_false_eq_true, not_true_eq_false]
  · rw [b4 _ (by omega) (by omega)]; exact a5
  · rw [b4 _ (by omega) (by omega)]; exact a6 m hm
  · rw [b4 _ (by omega) (by omega), a7 _ (by omega), upF_ne _ (by omega), upF_ne _ (by omega), upF_ne _ (by omega), upF_ne _ (by omega)]
end S73
