/-! the model: a page made anew, a page kept -/
theorem J_add (a b : Nat) : J a + J b = J (a + b) := (Int32.ofNat_add a b).symm
theorem J_mul (a b : Nat) : J a * J b = J (a * b) := (Int32.ofNat_mul a b).symm
theorem upA_upA (α : Mem) (a : Nat) (f g : Nat → Int32) : upA (upA α a f) a g = upA α a g := by
  funext j
  by_cases h : j = a
  · subst h; rw [upA_at, upA_at]
  · rw [upA_ne _ h, upA_ne _ h, upA_ne _ h]
theorem up2_upAt (α : Mem) (a i : Nat) (f : Nat → Int32) (v : Int32) : up2 (upA α a f) a i v = upA α a (upd f i v) := by
  rw [← up2_upA, upA_at, upA_upA]
def sh3 (q : Nat → Int32) (i : Nat) : Nat → Int32 := fun j => if j < i then q (j + 270) else q j
theorem sh3_0 (q : Nat → Int32) : sh3 q 0 = q := by funext j; unfold sh3; rw [if_neg (by omega)]
theorem sh3_st (q : Nat → Int32) (i : Nat) : upd (sh3 q i) i (sh3 q i (i + 270)) = sh3 q (i + 1) := by
  funext j
  unfold upd sh3
  by_cases h : j = i
  · rw [if_pos h, if_neg (by omega), if_pos (by omega), h]
  · rw [if_neg h]
    by_cases w : j < i
    · rw [if_pos w, if_pos (by omega)]
    · rw [if_neg w, if_neg (by omega)]
def pgW (q p : Nat → Int32) (s i : Nat) : Nat → Int32 := fun j => if 270 * s ≤ j ∧ j < 270 * s + i then p (j - 270 * s) else q j
theorem pgW_0 (q p : Nat → Int32) (s : Nat) : pgW q p s 0 = q := by funext j; unfold pgW; rw [if_neg (by omega)]
theorem pgW_st (q p : Nat → Int32) (s i : Nat) : upd (pgW q p s i) (270 * s + i) (p i) = pgW q p s (i + 1) := by
  funext j
  unfold upd pgW
  by_cases h : j = 270 * s + i
  · rw [if_pos h, if_pos (by omega), h, show 270 * s + i - 270 * s = i by omega]
  · rw [if_neg h]
    by_cases w : 270 * s ≤ j ∧ j < 270 * s + i
    · rw [if_pos w, if_pos (by omega)]
    · rw [if_neg w, if_neg (by omega)]
theorem up2_com (α : Mem) {a b : Nat} (h : a ≠ b) (k : Nat) (v : Int32) (f : Nat → Int32) : up2 (upA α a f) b k v = upA (up2 α b k v) a f := by
  funext j m
  by_cases h1 : j = a
  · rw [h1, upA_at, up2_ne _ h, upA_at]
  · rw [upA_ne _ h1]
    by_cases h2 : j = b
    · rw [h2, up2_at, up2_at, upA_ne _ (by omega)]
    · rw [up2_ne _ h2, up2_ne _ h2, upA_ne _ h1]
theorem up2_ov (α : Mem) (a k : Nat) (v w : Int32) : up2 (up2 α a k v) a k w = up2 α a k w := by
  funext j m
  by_cases h : j = a
  · subst h; rw [up2_a, up2_a, up2_a]; by_cases q : m = k <;> simp only [q, if_true, if_false]
  · rw [up2_ne _ h, up2_ne _ h, up2_ne _ h]
section S47
variable {z : Zr} {α β γ : Mem} {π : Nat → Nat} {η : Int64} {o : Nat → Int64} {od : Nat → UInt64} {uu : Option Value} {n k : Nat}
theorem new_4 (α : Mem) (c r : Int32) (m : Nat) : newC α 4 c r 4 m = up2 (up2 (up2 (up2 (up2 (up2 α 4 0 c) 4 1 r) 4 2 0) 4 3 2) 4 4 1) 4 5 0 4 m := by
  unfold newC fillC
  rw [upA_ne _ (by decide)]
theorem new_5 (α : Mem) (c r : Int32) (m : Nat) (hm : m < 144) : newC α 4 c r 5 m = 0 := by
  unfold newC fillC
  rw [upA_at]
  unfold fillF
  rw [if_pos (show m < aln (4 + 1) by rw [show aln (4 + 1) = 144 from by decide]; exact hm)]
end S47
