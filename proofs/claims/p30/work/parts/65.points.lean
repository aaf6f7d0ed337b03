/-! what can be reached: points by stands, apart from any machine -/
def upt (pt : Nat → Int32) (t : Nat) (v : Int32) : Nat → Int32 := if pt t = -1 then upd pt t v else pt
def uo (pt : Nat → Int32) (v : Int32) (o : Option Nat) : Nat → Int32 := match o with
  | none => pt
  | some t => upt pt t v
def spr (pt : Nat → Int32) (v : Int32) (a b c : Option Nat) : Nat → Int32 := uo (uo (uo pt v a) v b) v c
theorem upt_at {pt : Nat → Int32} {v : Int32} (s t : Nat) : upt pt s v t = if pt t = -1 ∧ s = t then v else pt t := by
  unfold upt
  by_cases h : pt s = -1
  · rw [if_pos h]
    unfold upd
    by_cases q : t = s
    · subst q; rw [if_pos rfl, if_pos ⟨h, rfl⟩]
    · rw [if_neg q, if_neg (fun w => q w.2.symm)]
  · rw [if_neg h]
    by_cases q : s = t
    · subst q; rw [if_neg (fun w => h w.1)]
    · rw [if_neg (fun w => q w.2)]
theorem uo_at {pt : Nat → Int32} {v : Int32} (o : Option Nat) (t : Nat) : uo pt v o t = if pt t = -1 ∧ o = some t then v else pt t := by
  cases o with
  | none => rw [if_neg (fun w => by cases w.2)]; rfl
  | some s =>
    show upt pt s v t = _
    rw [upt_at]
    by_cases q : s = t
    · subst q; by_cases h : pt s = -1
      · rw [if_pos ⟨h, rfl⟩, if_pos ⟨h, rfl⟩]
      · rw [if_neg (fun w => h w.1), if_neg (fun w => h w.1)]
    · rw [if_neg (fun w => q w.2), if_neg (fun w => q (Option.some.inj w.2))]
theorem spr_at {pt : Nat → Int32} {v : Int32} (hv : ¬ v = -1) (a b c : Option Nat) (t : Nat) : spr pt v a b c t = if pt t = -1 ∧ (a = some t ∨ b = some t ∨ c = some t) then v else pt t := by
  unfold spr
  rw [uo_at, uo_at, uo_at]
  by_cases h : pt t = -1 <;> by_cases h1 : a = some t <;> by_cases h2 : b = some t <;> by_cases h3 : c = some t <;> simp only [h, h1, h2, h3, hv, and_true, and_false, true_and, false_and, or_true, true_or, or_false, false_or, if_true, if_false]
theorem spr_cm {pt : Nat → Int32} {v : Int32} (hv : ¬ v = -1) (a b c : Option Nat) : spr pt v a b c = spr pt v a c b := by
  funext t
  rw [spr_at hv, spr_at hv]
  by_cases h : pt t = -1 ∧ (a = some t ∨ b = some t ∨ c = some t)
  · rw [if_pos h, if_pos ⟨h.1, h.2.elim Or.inl (fun w => Or.inr (w.elim Or.inr Or.inl))⟩]
  · rw [if_neg h, if_neg (fun q => h ⟨q.1, q.2.elim Or.inl (fun w => Or.inr (w.elim Or.inr Or.inl))⟩)]
def mxF (pt : Nat → Int32) : Nat → Nat → Int32 → Int32
  | 0, _, m => m
  | k + 1, i, m => mxF pt k (i + 1) (if m < pt i then pt i else m)
/-- the most points of a cell's stands -/
def mxP (pt : Nat → Int32) (x : Nat) : Int32 := mxF pt 12 (12 * x) (-1)
theorem mx_spec (pt : Nat → Int32) : ∀ k i m, m.toInt ≤ (mxF pt k i m).toInt ∧ (∀ j, i ≤ j → j < i + k → (pt j).toInt ≤ (mxF pt k i m).toInt) ∧ (mxF pt k i m = m ∨ ∃ j, i ≤ j ∧ j < i + k ∧ pt j = mxF pt k i m) := by
  intro k
  induction k with
  | zero => intro i m; exact ⟨Int.le_refl _, fun j h1 h2 => by omega, Or.inl rfl⟩
  | succ k ih =>
    intro i m
    rw [mxF]
    by_cases h : m < pt i
    · rw [if_pos h]
      rw [i32_lt] at h
      obtain ⟨a, b, c⟩ := ih (i + 1) (pt i)
      refine ⟨by omega, fun j h1 h2 => ?_, ?_⟩
      · by_cases q : j = i
        · subst q; exact a
        · exact b j (by omega) (by omega)
      · rcases c with c | ⟨j, j1, j2, j3⟩
        · exact Or.inr ⟨i, by omega, by omega, c.symm⟩
        · exact Or.inr ⟨j, by omega, by omega, j3⟩
    · rw [if_neg h]
      rw [i32_lt] at h
      obtain ⟨a, b, c⟩ := ih (i + 1) m
      refine ⟨a, fun j h1 h2 => ?_, ?_⟩
      · by_cases q : j = i
        · subst q; omega
        · exact b j (by omega) (by omega)
      · rcases c with c | ⟨j, j1, j2, j3⟩
        · exact Or.inl c
        · exact Or.inr ⟨j, by omega, by omega, j3⟩
theorem mx_eq {pt : Nat → Int32} {x : Nat} {M : Int32} (h1 : -1 ≤ M.toInt) (h2 : ∀ b, b < 12 → (pt (12 * x + b)).toInt ≤ M.toInt) (h3 : M = -1 ∨ ∃ b, b < 12 ∧ pt (12 * x + b) = M) : mxP pt x = M := by
  obtain ⟨a, b, c⟩ := mx_spec pt 12 (12 * x) (-1)
  rw [tim1] at a
  have e : mxP pt x = mxF pt 12 (12 * x) (-1) := rfl
  rw [← e] at a b c
  rw [i32_eq]
  have u : (mxP pt x).toInt ≤ M.toInt := by
    rcases c with c | ⟨j, j1, j2, j3⟩
    · rw [c, tim1]; exact h1
    · rw [← j3]
      have := h2 (j - 12 * x) (by omega)
      rw [show 12 * x + (j - 12 * x) = j by omega] at this
      exact this
  have l : M.toInt ≤ (mxP pt x).toInt := by
    rcases h3 with h3 | ⟨q, q1, q2⟩
    · rw [h3, tim1]; exact a
    · rw [← q2]; exact b _ (by omega) (by omega)
  omega
theorem mx_cg {pt p2 : Nat → Int32} {x : Nat} (h : ∀ b, b < 12 → p2 (12 * x + b) = pt (12 * x + b)) : mxP p2 x = mxP pt x := by
  obtain ⟨a, b, c⟩ := mx_spec pt 12 (12 * x) (-1)
  rw [tim1] at a
  refine mx_eq a (fun q hq => by rw [h q hq]; exact b _ (by omega) (by omega)) ?_
  rcases c with c | ⟨j, j1, j2, j3⟩
  · exact Or.inl c
  · refine Or.inr ⟨j - 12 * x, by omega, ?_⟩
    rw [h _ (by omega), show 12 * x + (j - 12 * x) = j by omega]; exact j3
/-- every stand is unreached, or reached with v points or more -/
def Gd (pt : Nat → Int32) (v : Int32) : Prop := ∀ t, t < 1728 → pt t = -1 ∨ v.toInt ≤ (pt t).toInt
theorem mx_m1 {pt : Nat → Int32} {v : Int32} (hv : 0 ≤ v.toInt) (G : Gd pt v) {x : Nat} (hx : x < 144) : mxP pt x = -1 ↔ ∀ b, b < 12 → pt (12 * x + b) = -1 := by
  obtain ⟨a, b, c⟩ := mx_spec pt 12 (12 * x) (-1)
  constructor
  · intro h q hq
    have h' : mxF pt 12 (12 * x) (-1) = -1 := h
    have := b (12 * x + q) (by omega) (by omega)
    rw [h', tim1] at this
    rcases G (12 * x + q) (by omega) with w | w
    · exact w
    · omega
  · intro h
    exact mx_eq (by decide) (fun q hq => by rw [h q hq, tim1]; decide) (Or.inl rfl)
theorem mx_upt {pt : Nat → Int32} {v : Int32} (hv : 0 ≤ v.toInt) (G : Gd pt v) {x b : Nat} (hx : x < 144) (hb : b < 12) {y : Nat} (hy : y < 144) : mxP (upt pt (12 * x + b) v) y = if y = x ∧ mxP pt x = -1 then v else mxP pt y := by
  by_cases hp : pt (12 * x + b) = -1
  · have e : upt pt (12 * x + b) v = upd pt (12 * x + b) v := by unfold upt; rw [if_pos hp]
    rw [e]
    by_cases hyx : y = x
    · subst hyx
      by_cases hm : mxP pt y = -1
      · rw [if_pos ⟨rfl, hm⟩]
        have hall := (mx_m1 hv G hx).mp hm
        refine mx_eq (by omega) (fun q hq => ?_) (Or.inr ⟨b, hb, by rw [upd_at]⟩)
        by_cases w : q = b
        · subst w; rw [upd_at]; omega
        · rw [upd_ne _ (by omega), hall q hq, tim1]; omega
      · rw [if_neg (fun w => hm w.2)]
        obtain ⟨a1, b1, c1⟩ := mx_spec pt 12 (12 * y) (-1)
        rw [tim1] at a1
        have e2 : mxP pt y = mxF pt 12 (12 * y) (-1) := rfl
        rw [← e2] at a1 b1 c1
        obtain ⟨j, j1, j2, j3⟩ := c1.resolve_left hm
        have hM : v.toInt ≤ (mxP pt y).toInt := by
          rcases G j (by omega) with w | w
          · rw [w] at j3; exact absurd j3.symm hm
          · rw [← j3]; exact w
        refine mx_eq a1 (fun q hq => ?_) (Or.inr ⟨j - 12 * y, by omega, ?_⟩)
        · by_cases w : q = b
          · subst w; rw [upd_at]; exact hM
          · rw [upd_ne _ (by omega)]; exact b1 _ (by omega) (by omega)
        · have hj : j ≠ 12 * y + b := fun w => by rw [w, hp] at j3; exact hm j3.symm
          rw [show 12 * y + (j - 12 * y) = j by omega, upd_ne _ hj]; exact j3
    · rw [if_neg (fun w => hyx w.1)]
      exact mx_cg (fun q hq => by rw [upd_ne _ (by omega)])
  · have e : upt pt (12 * x + b) v = pt := by unfold upt; rw [if_neg hp]
    rw [e, if_neg (fun w => hp ((mx_m1 hv G hx).mp w.2 b hb))]
def cntN (pt : Nat → Int32) : Nat → Nat
  | 0 => 0
  | k + 1 => cntN pt k + (if pt k = -1 then 0 else 1)
theorem cntN_le (pt : Nat → Int32) : ∀ k, cntN pt k ≤ k := by
  intro k
  induction k with
  | zero => exact Nat.le_refl _
  | succ k ih => rw [cntN]; split <;> omega
theorem cntN_lt {pt : Nat → Int32} {t : Nat} (ht : pt t = -1) : ∀ k, t < k → cntN pt k < k := by
  intro k
  induction k with
  | zero => intro h; omega
  | succ k ih =>
    intro h
    rw [cntN]
    by_cases q : k = t
    · subst q; rw [if_pos ht]; have := cntN_le pt k; omega
    · have := ih (by omega); split <;> omega
theorem cntN_o {pt : Nat → Int32} {t : Nat} (v : Int32) : ∀ k, k ≤ t → cntN (upd pt t v) k = cntN pt k := by
  intro k
  induction k with
  | zero => intro _; rfl
  | succ k ih => intro h; rw [cntN, cntN, ih (by omega), upd_ne _ (by omega)]
theorem cntN_up {pt : Nat → Int32} {t : Nat} {v : Int32} (hv : ¬ v = -1) (ht : pt t = -1) : ∀ k, t < k → cntN (upd pt t v) k = cntN pt k + 1 := by
  intro k
  induction k with
  | zero => intro h; omega
  | succ k ih =>
    intro h
    rw [cntN, cntN]
    by_cases q : k = t
    · subst q; rw [cntN_o v k (Nat.le_refl k), upd_at, if_neg hv, if_pos ht]
    · rw [ih (by omega), upd_ne _ q]; omega
theorem cnt_s (p : Nat → Prop) [DecidablePred p] : ∀ k i (v : Int32), cntF p k i (v + 1) = cntF p k i v + 1 := by
  intro k
  induction k with
  | zero => intro i v; rfl
  | succ k ih =>
    intro i v
    rw [cntF, cntF]
    by_cases h : p i
    · rw [if_pos h, if_pos h, ih]
    · rw [if_neg h, if_neg h, ih]
theorem cnt_cg (p q : Nat → Prop) [DecidablePred p] [DecidablePred q] : ∀ k i (v : Int32), (∀ y, i ≤ y → y < i + k → (q y ↔ p y)) → cntF q k i v = cntF p k i v := by
  intro k
  induction k with
  | zero => intro i v _; rfl
  | succ k ih =>
    intro i v h
    rw [cntF, cntF, ih _ _ (fun y h1 h2 => h y (by omega) (by omega))]
    have := h i (by omega) (by omega)
    by_cases w : p i
    · rw [if_pos w, if_pos (this.mpr w)]
    · rw [if_neg w, if_neg (fun x => w (this.mp x))]
theorem cnt_flip (p q : Nat → Prop) [DecidablePred p] [DecidablePred q] {x : Nat} (hx : ¬ p x) (hx2 : q x) : ∀ k i (v : Int32), (∀ y, y ≠ x → i ≤ y → y < i + k → (q y ↔ p y)) → i ≤ x → x < i + k → cntF q k i v = cntF p k i v + 1 := by
  intro k
  induction k with
  | zero => intro i v _ h1 h2; omega
  | succ k ih =>
    intro i v h h1 h2
    rw [cntF, cntF]
    by_cases e : x = i
    · subst e
      rw [if_pos hx2, if_neg hx, cnt_s]
      congr 1
      exact cnt_cg p q k _ _ (fun y h3 h4 => h y (by omega) (by omega) (by omega))
    · have := h i (fun w => e w.symm) (by omega) (by omega)
      rw [← ih (i + 1) _ (fun y h0 h3 h4 => h y h0 (by omega) (by omega)) (by omega) (by omega)]
      by_cases w : p i
      · rw [if_pos w, if_pos (this.mpr w)]
      · rw [if_neg w, if_neg (fun x => w (this.mp x))]
def mkB (b : Nat) : Int32 := 1 <<< (J b &&& 31)
theorem mkB_bit : ∀ b, b < 12 → (mkB b).toBitVec.getLsbD b = true := by decide
theorem mkB_and : ∀ b, b < 12 → ∀ c, c < 12 → b ≠ c → mkB b &&& mkB c = 0 := by decide
theorem bit_or (x : Int32) {b c : Nat} (hb : b < 12) (hc : c < 12) : ((x ||| mkB b) &&& mkB c = 0) ↔ (¬ b = c ∧ x &&& mkB c = 0) := by
  by_cases e : b = c
  · subst e
    constructor
    · intro h
      exfalso
      have h2 := congrArg (fun y : Int32 => y.toBitVec.getLsbD b) h
      simp only [Int32.toBitVec_and, Int32.toBitVec_or, BitVec.getLsbD_and, BitVec.getLsbD_or, mkB_bit b hb, Bool.or_true, Bool.and_true] at h2
      have h3 : (0 : Int32).toBitVec.getLsbD b = false := by
        show (0 : BitVec 32).getLsbD b = false
        simp
      rw [h3] at h2
      cases h2
    · intro h; exact absurd rfl h.1
  · have hz := mkB_and b hb c hc e
    have key : (x ||| mkB b) &&& mkB c = x &&& mkB c := by
      apply Int32.toBitVec_inj.mp
      apply BitVec.eq_of_getLsbD_eq
      intro i hi
      have h2 := congrArg (fun y : Int32 => y.toBitVec.getLsbD i) hz
      have h3 : (0 : Int32).toBitVec.getLsbD i = false := by
        show (0 : BitVec 32).getLsbD i = false
        simp
      simp only [Int32.toBitVec_and, BitVec.getLsbD_and, h3] at h2
      simp only [Int32.toBitVec_and, Int32.toBitVec_or, BitVec.getLsbD_and, BitVec.getLsbD_or]
      cases hx : x.toBitVec.getLsbD i <;> cases h4 : (mkB b).toBitVec.getLsbD i <;> cases h5 : (mkB c).toBitVec.getLsbD i <;> simp_all
    rw [key]
    exact ⟨fun h => ⟨e, h⟩, fun h => h.2⟩
theorem J_sub {a b : Nat} (h : b ≤ a) (ha : a < 2147483648) : J a - J b = J (a - b) := by
  rw [i32_eq, sub_ti (by rw [J_ti ha, J_ti (by omega)]; omega) (by rw [J_ti ha, J_ti (by omega)]; omega), J_ti ha, J_ti (by omega), J_ti (by omega)]; omega
theorem J_div12 {a : Nat} (ha : a < 2147483648) : J a / 12 = J (a / 12) := by
  rw [i32_eq, tidiv (by rw [J_ti ha]; omega) (by decide), J_ti ha, ti12, J_ti (by omega)]; omega
theorem J_div2 {a : Nat} (ha : a < 2147483648) : J a / 2 = J (a / 2) := by
  rw [i32_eq, tidiv (by rw [J_ti ha]; omega) (by decide), J_ti ha, ti2, J_ti (by omega)]; omega
theorem J_div6 {a : Nat} (ha : a < 2147483648) : J a / 6 = J (a / 6) := by
  rw [i32_eq, tidiv (by rw [J_ti ha]; omega) (by decide), J_ti ha, ti6, J_ti (by omega)]; omega
theorem J_mod12 {a : Nat} (ha : a < 2147483648) : J a - J (a / 12) * 12 = J (a % 12) := by
  rw [show (12 : Int32) = J 12 from rfl, J_mul, J_sub (by omega) ha]; congr 1; omega
theorem J_mod2 {a : Nat} (ha : a < 2147483648) : J a - J (a / 2) * 2 = J (a % 2) := by
  rw [show (2 : Int32) = J 2 from rfl, J_mul, J_sub (by omega) ha]; congr 1; omega
theorem J_mod6 {a : Nat} (ha : a < 2147483648) : J a - J (a / 6) * 6 = J (a % 6) := by
  rw [show (6 : Int32) = J 6 from rfl, J_mul, J_sub (by omega) ha]; congr 1; omega
