/-! THE HEAP AS A PICTURE: α the class' numbers, π its saved seas, β the model's numbers, η its hash, o and od the law's two cells -/
def kdT : List Nat := [30, 30, 30, 8, 6, 40, 21, 7, 7, 7, 7, 7, 7, 7, 7, 4, 22, 6, 40, 21, 7, 7, 7, 7, 7, 7, 7, 7, 6, 40, 21, 7, 7, 7, 7, 7, 7, 7, 7, 6, 40, 21, 7, 7, 7, 7, 7, 7, 7, 7, 6, 40, 21, 7, 7, 7, 7, 7, 7, 7, 7, 3, 2, 1, 0, 40, 40, 40, 5, 40]
def lnT : List Nat := [0, 0, 0, 0, 0, 144, 0, 0, 0, 0, 0, 0, 0, 0, 0, 0, 0, 0, 144, 0, 0, 0, 0, 0, 0, 0, 0, 0, 0, 144, 0, 0, 0, 0, 0, 0, 0, 0, 0, 0, 144, 0, 0, 0, 0, 0, 0, 0, 0, 0, 0, 144, 0, 0, 0, 0, 0, 0, 0, 0, 0, 0, 0, 0, 0, 144, 144, 1728, 0, 150]
def kd (a : Nat) : Nat := kdT.getD a 99
def aln (a : Nat) : Nat := lnT.getD a 0
abbrev Mem := Nat → Nat → Int32
abbrev Zr := Nat × Nat × Nat × (Nat → Int32)
def up2 (α : Mem) (a k : Nat) (v : Int32) : Mem := fun i => if i = a then upd (α i) k v else α i
def upA (α : Mem) (a : Nat) (f : Nat → Int32) : Mem := fun i => if i = a then f else α i
def cellr (z : Zr) (π : Nat → Nat) (η : Int64) (o : Nat → Int64) (od : Nat → UInt64) (a : Nat) (r q : Nat → Int32) : va_E := match kd a with
  | 0 => .inr (0, [.ref 4, .ref 65, .ref 66, .ref 67, .int (r 4), .int (r 5)])
  | 1 => .inr (1, [.ref 4])
  | 2 => .inr (2, [.ref 4])
  | 3 => .inr (3, [.ref 4])
  | 4 => .inr (4, [.ref 16, .int (r 1)])
  | 5 => .inr (5, [.ref 69, .int (r 1)])
  | 6 => .inr (6, [.int (r 0), .int (r 1), .int (r 2), .int (r 3), .int (r 4), .int (r 5), .ref (a + 1), .ref (a + 2)])
  | 7 => .inr (7, [.int (r 0), .int (r 1), .int (r 2), .int (r 3), .int (r 4), .int (r 5), .int (r 6), .int (r 7), .int (r 8), .int (r 9), .int (r 10), .int (r 11), .int (r 12), .int (r 13), .int (r 14)])
  | 8 => .inr (8, [.ref 4, .ref 15, .ref 61, .ref 62, .ref 63, .ref 64, .ref 68])
  | 21 => .inl (1, 8, .inr (.inr (.inr (.inr (fun i => if i < 8 then some (a + 1 + i) else none)))))
  | 22 => .inl (2, 4, .inr (.inr (.inr (.inr (fun i => if i < 4 then some (π i) else none)))))
  | 30 => if a = 0 then .inl (0, z.2.2.1, .inl z.2.2.2) else if a = 1 then .inl (0, 6, .inl rowStep) else .inl (0, 6, .inl colStep)
  | 40 => .inl (0, aln a, .inl r)
  | _ => .inr (0, [])
def HC (z : Zr) (α : Mem) (π : Nat → Nat) (β : Mem) (η : Int64) (o : Nat → Int64) (od : Nat → UInt64) : Hp := (70, z.1, z.2.1, fun a => cellr z π η o od a (α a) (β a))
section HCR
variable {z : Zr} {α β : Mem} {π : Nat → Nat} {η : Int64} {o : Nat → Int64} {od : Nat → UInt64} {a : Nat}
theorem gf0_0 (ha : kd a = 0) : gf (HC z α π β η o od) 0 0 a = some (.ref 4) := by simp [gf, HC, cellr, ha]
theorem gf0_1 (ha : kd a = 0) : gf (HC z α π β η o od) 0 1 a = some (.ref 65) := by simp [gf, HC, cellr, ha]
theorem gf0_2 (ha : kd a = 0) : gf (HC z α π β η o od) 0 2 a = some (.ref 66) := by simp [gf, HC, cellr, ha]
theorem gf0_3 (ha : kd a = 0) : gf (HC z α π β η o od) 0 3 a = some (.ref 67) := by simp [gf, HC, cellr, ha]
theorem gf0_4 (ha : kd a = 0) : gf (HC z α π β η o od) 0 4 a = some (.int (α a 4)) := by simp [gf, HC, cellr, ha]
theorem gf0_5 (ha : kd a = 0) : gf (HC z α π β η o od) 0 5 a = some (.int (α a 5)) := by simp [gf, HC, cellr, ha]
theorem gf1_0 (ha : kd a = 1) : gf (HC z α π β η o od) 1 0 a = some (.ref 4) := by simp [gf, HC, cellr, ha]
theorem gf2_0 (ha : kd a = 2) : gf (HC z α π β η o od) 2 0 a = some (.ref 4) := by simp [gf, HC, cellr, ha]
theorem gf3_0 (ha : kd a = 3) : gf (HC z α π β η o od) 3 0 a = some (.ref 4) := by simp [gf, HC, cellr, ha]
theorem gf4_0 (ha : kd a = 4) : gf (HC z α π β η o od) 4 0 a = some (.ref 16) := by simp [gf, HC, cellr, ha]
theorem gf4_1 (ha : kd a = 4) : gf (HC z α π β η o od) 4 1 a = some (.int (α a 1)) := by simp [gf, HC, cellr, ha]
theorem gf5_0 (ha : kd a = 5) : gf (HC z α π β η o od) 5 0 a = some (.ref 69) := by simp [gf, HC, cellr, ha]
theorem gf5_1 (ha : kd a = 5) : gf (HC z α π β η o od) 5 1 a = some (.int (α a 1)) := by simp [gf, HC, cellr, ha]
theorem gf6_0 (ha : kd a = 6) : gf (HC z α π β η o od) 6 0 a = some (.int (α a 0)) := by simp [gf, HC, cellr, ha]
theorem gf6_1 (ha : kd a = 6) : gf (HC z α π β η o od) 6 1 a = some (.int (α a 1)) := by simp [gf, HC, cellr, ha]
theorem gf6_2 (ha : kd a = 6) : gf (HC z α π β η o od) 6 2 a = some (.int (α a 2)) := by simp [gf, HC, cellr, ha]
theorem gf6_3 (ha : kd a = 6) : gf (HC z α π β η o od) 6 3 a = some (.int (α a 3)) := by simp [gf, HC, cellr, ha]
theorem gf6_4 (ha : kd a = 6) : gf (HC z α π β η o od) 6 4 a = some (.int (α a 4)) := by simp [gf, HC, cellr, ha]
theorem gf6_5 (ha : kd a = 6) : gf (HC z α π β η o od) 6 5 a = some (.int (α a 5)) := by simp [gf, HC, cellr, ha]
theorem gf6_6 (ha : kd a = 6) : gf (HC z α π β η o od) 6 6 a = some (.ref (a + 1)) := by simp [gf, HC, cellr, ha]
theorem gf6_7 (ha : kd a = 6) : gf (HC z α π β η o od) 6 7 a = some (.ref (a + 2)) := by simp [gf, HC, cellr, ha]
theorem gf7_0 (ha : kd a = 7) : gf (HC z α π β η o od) 7 0 a = some (.int (α a 0)) := by simp [gf, HC, cellr, ha]
theorem gf7_1 (ha : kd a = 7) : gf (HC z α π β η o od) 7 1 a = some (.int (α a 1)) := by simp [gf, HC, cellr, ha]
theorem gf7_2 (ha : kd a = 7) : gf (HC z α π β η o od) 7 2 a = some (.int (α a 2)) := by simp [gf, HC, cellr, ha]
theorem gf7_3 (ha : kd a = 7) : gf (HC z α π β η o od) 7 3 a = some (.int (α a 3)) := by simp [gf, HC, cellr, ha]
theorem gf7_4 (ha : kd a = 7) : gf (HC z α π β η o od) 7 4 a = some (.int (α a 4)) := by simp [gf, HC, cellr, ha]
theorem gf7_5 (ha : kd a = 7) : gf (HC z α π β η o od) 7 5 a = some (.int (α a 5)) := by simp [gf, HC, cellr, ha]
theorem gf7_6 (ha : kd a = 7) : gf (HC z α π β η o od) 7 6 a = some (.int (α a 6)) := by simp [gf, HC, cellr, ha]
theorem gf7_7 (ha : kd a = 7) : gf (HC z α π β η o od) 7 7 a = some (.int (α a 7)) := by simp [gf, HC, cellr, ha]
theorem gf7_8 (ha : kd a = 7) : gf (HC z α π β η o od) 7 8 a = some (.int (α a 8)) := by simp [gf, HC, cellr, ha]
theorem gf7_9 (ha : kd a = 7) : gf (HC z α π β η o od) 7 9 a = some (.int (α a 9)) := by simp [gf, HC, cellr, ha]
theorem gf7_10 (ha : kd a = 7) : gf (HC z α π β η o od) 7 10 a = some (.int (α a 10)) := by simp [gf, HC, cellr, ha]
theorem gf7_11 (ha : kd a = 7) : gf (HC z α π β η o od) 7 11 a = some (.int (α a 11)) := by simp [gf, HC, cellr, ha]
theorem gf7_12 (ha : kd a = 7) : gf (HC z α π β η o od) 7 12 a = some (.int (α a 12)) := by simp [gf, HC, cellr, ha]
theorem gf7_13 (ha : kd a = 7) : gf (HC z α π β η o od) 7 13 a = some (.int (α a 13)) := by simp [gf, HC, cellr, ha]
theorem gf7_14 (ha : kd a = 7) : gf (HC z α π β η o od) 7 14 a = some (.int (α a 14)) := by simp [gf, HC, cellr, ha]
theorem gf8_0 (ha : kd a = 8) : gf (HC z α π β η o od) 8 0 a = some (.ref 4) := by simp [gf, HC, cellr, ha]
theorem gf8_1 (ha : kd a = 8) : gf (HC z α π β η o od) 8 1 a = some (.ref 15) := by simp [gf, HC, cellr, ha]
theorem gf8_2 (ha : kd a = 8) : gf (HC z α π β η o od) 8 2 a = some (.ref 61) := by simp [gf, HC, cellr, ha]
theorem gf8_3 (ha : kd a = 8) : gf (HC z α π β η o od) 8 3 a = some (.ref 62) := by simp [gf, HC, cellr, ha]
theorem gf8_4 (ha : kd a = 8) : gf (HC z α π β η o od) 8 4 a = some (.ref 63) := by simp [gf, HC, cellr, ha]
theorem gf8_5 (ha : kd a = 8) : gf (HC z α π β η o od) 8 5 a = some (.ref 64) := by simp [gf, HC, cellr, ha]
theorem gf8_6 (ha : kd a = 8) : gf (HC z α π β η o od) 8 6 a = some (.ref 68) := by simp [gf, HC, cellr, ha]
theorem kd_n9 {a : Nat} : kd a ≠ 9 := by
  intro h
  have hl : a < 70 := by rcases Nat.lt_or_ge a 70 with q | q; exact q; (unfold kd at h; rw [List.getD_eq_getElem?_getD, List.getElem?_eq_none (by exact q)] at h; cases h)
  have : ∀ a, a < 70 → kd a ≠ 9 := by decide +kernel
  exact this a hl h
theorem isO_HC {c : Nat} (ha : kd a = c) (hc : c ≤ 9) : isO (HC z α π β η o od) a c = true := by
  have h : c = 0 ∨ c = 1 ∨ c = 2 ∨ c = 3 ∨ c = 4 ∨ c = 5 ∨ c = 6 ∨ c = 7 ∨ c = 8 ∨ c = 9 := by omega
  rcases h with rfl | rfl | rfl | rfl | rfl | rfl | rfl | rfl | rfl | rfl <;> first | exact absurd ha kd_n9 | simp [isO, HC, cellr, ha]
theorem up2_ne (α : Mem) {a j : Nat} (h : j ≠ a) (k : Nat) (v : Int32) : up2 α a k v j = α j := by unfold up2; rw [if_neg h]
theorem up2_at (α : Mem) (a k : Nat) (v : Int32) : up2 α a k v a = upd (α a) k v := by unfold up2; rw [if_pos rfl]
theorem upA_ne (α : Mem) {a j : Nat} (h : j ≠ a) (f : Nat → Int32) : upA α a f j = α j := by unfold upA; rw [if_neg h]
theorem upA_at (α : Mem) (a : Nat) (f : Nat → Int32) : upA α a f a = f := by unfold upA; rw [if_pos rfl]
theorem hset_α {x : va_E} (f : Nat → Int32) (hx : x = cellr z π η o od a f (β a)) : hset (HC z α π β η o od) a x = HC z (upA α a f) π β η o od := by
  unfold hset HC
  simp only [Prod.mk.injEq, true_and]
  funext j
  by_cases h : j = a
  · subst h; rw [if_pos rfl, upA_at, hx]
  · rw [if_neg h, upA_ne α h]
theorem up2_upA (α : Mem) (a k : Nat) (v : Int32) : upA α a (upd (α a) k v) = up2 α a k v := by
  funext i
  unfold upA up2
  split
  · next h => rw [h]
  · rfl
theorem pf0_4 {v : Int32} (ha : kd a = 0) : pf (HC z α π β η o od) 0 4 a (.int v) = some (HC z (up2 α a 4 v) π β η o od) := by
  rw [← up2_upA, ← hset_α (upd (α a) 4 v) rfl]
  simp [pf, HC, cellr, ha, fitV, yC, upd, narrow, fits, tyX0]
theorem pf0_5 {v : Int32} (ha : kd a = 0) : pf (HC z α π β η o od) 0 5 a (.int v) = some (HC z (up2 α a 5 v) π β η o od) := by
  rw [← up2_upA, ← hset_α (upd (α a) 5 v) rfl]
  simp [pf, HC, cellr, ha, fitV, yC, upd, narrow, fits, tyX0]
theorem pf4_1 {v : Int32} (ha : kd a = 4) : pf (HC z α π β η o od) 4 1 a (.int v) = some (HC z (up2 α a 1 v) π β η o od) := by
  rw [← up2_upA, ← hset_α (upd (α a) 1 v) rfl]
  simp [pf, HC, cellr, ha, fitV, yC, upd, narrow, fits, tyX4]
theorem pf5_1 {v : Int32} (ha : kd a = 5) : pf (HC z α π β η o od) 5 1 a (.int v) = some (HC z (up2 α a 1 v) π β η o od) := by
  rw [← up2_upA, ← hset_α (upd (α a) 1 v) rfl]
  simp [pf, HC, cellr, ha, fitV, yC, upd, narrow, fits, tyX5]
theorem pf6_0 {v : Int32} (ha : kd a = 6) : pf (HC z α π β η o od) 6 0 a (.int v) = some (HC z (up2 α a 0 v) π β η o od) := by
  rw [← up2_upA, ← hset_α (upd (α a) 0 v) rfl]
  simp [pf, HC, cellr, ha, fitV, yC, upd, narrow, fits, tyX6]
theorem pf6_1 {v : Int32} (ha : kd a = 6) : pf (HC z α π β η o od) 6 1 a (.int v) = some (HC z (up2 α a 1 v) π β η o od) := by
  rw [← up2_upA, ← hset_α (upd (α a) 1 v) rfl]
  simp [pf, HC, cellr, ha, fitV, yC, upd, narrow, fits, tyX6]
theorem pf6_2 {v : Int32} (ha : kd a = 6) : pf (HC z α π β η o od) 6 2 a (.int v) = some (HC z (up2 α a 2 v) π β η o od) := by
  rw [← up2_upA, ← hset_α (upd (α a) 2 v) rfl]
  simp [pf, HC, cellr, ha, fitV, yC, upd, narrow, fits, tyX6]
theorem pf6_3 {v : Int32} (ha : kd a = 6) : pf (HC z α π β η o od) 6 3 a (.int v) = some (HC z (up2 α a 3 v) π β η o od) := by
  rw [← up2_upA, ← hset_α (upd (α a) 3 v) rfl]
  simp [pf, HC, cellr, ha, fitV, yC, upd, narrow, fits, tyX6]
theorem pf6_4 {v : Int32} (ha : kd a = 6) : pf (HC z α π β η o od) 6 4 a (.int v) = some (HC z (up2 α a 4 v) π β η o od) := by
  rw [← up2_upA, ← hset_α (upd (α a) 4 v) rfl]
  simp [pf, HC, cellr, ha, fitV, yC, upd, narrow, fits, tyX6]
theorem pf6_5 {v : Int32} (ha : kd a = 6) : pf (HC z α π β η o od) 6 5 a (.int v) = some (HC z (up2 α a 5 v) π β η o od) := by
  rw [← up2_upA, ← hset_α (upd (α a) 5 v) rfl]
  simp [pf, HC, cellr, ha, fitV, yC, upd, narrow, fits, tyX6]
theorem pf7_0 {v : Int32} (ha : kd a = 7) : pf (HC z α π β η o od) 7 0 a (.int v) = some (HC z (up2 α a 0 v) π β η o od) := by
  rw [← up2_upA, ← hset_α (upd (α a) 0 v) rfl]
  simp [pf, HC, cellr, ha, fitV, yC, upd, narrow, fits, tyX7]
theorem pf7_1 {v : Int32} (ha : kd a = 7) : pf (HC z α π β η o od) 7 1 a (.int v) = some (HC z (up2 α a 1 v) π β η o od) := by
  rw [← up2_upA, ← hset_α (upd (α a) 1 v) rfl]
  simp [pf, HC, cellr, ha, fitV, yC, upd, narrow, fits, tyX7]
theorem pf7_2 {v : Int32} (ha : kd a = 7) : pf (HC z α π β η o od) 7 2 a (.int v) = some (HC z (up2 α a 2 v) π β η o od) := by
  rw [← up2_upA, ← hset_α (upd (α a) 2 v) rfl]
  simp [pf, HC, cellr, ha, fitV, yC, upd, narrow, fits, tyX7]
theorem pf7_3 {v : Int32} (ha : kd a = 7) : pf (HC z α π β η o od) 7 3 a (.int v) = some (HC z (up2 α a 3 v) π β η o od) := by
  rw [← up2_upA, ← hset_α (upd (α a) 3 v) rfl]
  simp [pf, HC, cellr, ha, fitV, yC, upd, narrow, fits, tyX7]
theorem pf7_4 {v : Int32} (ha : kd a = 7) : pf (HC z α π β η o od) 7 4 a (.int v) = some (HC z (up2 α a 4 v) π β η o od) := by
  rw [← up2_upA, ← hset_α (upd (α a) 4 v) rfl]
  simp [pf, HC, cellr, ha, fitV, yC, upd, narrow, fits, tyX7]
theorem pf7_5 {v : Int32} (ha : kd a = 7) : pf (HC z α π β η o od) 7 5 a (.int v) = some (HC z (up2 α a 5 v) π β η o od) := by
  rw [← up2_upA, ← hset_α (upd (α a) 5 v) rfl]
  simp [pf, HC, cellr, ha, fitV, yC, upd, narrow, fits, tyX7]
theorem pf7_6 {v : Int32} (ha : kd a = 7) : pf (HC z α π β η o od) 7 6 a (.int v) = some (HC z (up2 α a 6 v) π β η o od) := by
  rw [← up2_upA, ← hset_α (upd (α a) 6 v) rfl]
  simp [pf, HC, cellr, ha, fitV, yC, upd, narrow, fits, tyX7]
theorem pf7_7 {v : Int32} (ha : kd a = 7) : pf (HC z α π β η o od) 7 7 a (.int v) = some (HC z (up2 α a 7 v) π β η o od) := by
  rw [← up2_upA, ← hset_α (upd (α a) 7 v) rfl]
  simp [pf, HC, cellr, ha, fitV, yC, upd, narrow, fits, tyX7]
theorem pf7_8 {v : Int32} (ha : kd a = 7) : pf (HC z α π β η o od) 7 8 a (.int v) = some (HC z (up2 α a 8 v) π β η o od) := by
  rw [← up2_upA, ← hset_α (upd (α a) 8 v) rfl]
  simp [pf, HC, cellr, ha, fitV, yC, upd, narrow, fits, tyX7]
theorem pf7_9 {v : Int32} (ha : kd a = 7) : pf (HC z α π β η o od) 7 9 a (.int v) = some (HC z (up2 α a 9 v) π β η o od) := by
  rw [← up2_upA, ← hset_α (upd (α a) 9 v) rfl]
  simp [pf, HC, cellr, ha, fitV, yC, upd, narrow, fits, tyX7]
theorem pf7_10 {v : Int32} (ha : kd a = 7) : pf (HC z α π β η o od) 7 10 a (.int v) = some (HC z (up2 α a 10 v) π β η o od) := by
  rw [← up2_upA, ← hset_α (upd (α a) 10 v) rfl]
  simp [pf, HC, cellr, ha, fitV, yC, upd, narrow, fits, tyX7]
theorem pf7_11 {v : Int32} (ha : kd a = 7) : pf (HC z α π β η o od) 7 11 a (.int v) = some (HC z (up2 α a 11 v) π β η o od) := by
  rw [← up2_upA, ← hset_α (upd (α a) 11 v) rfl]
  simp [pf, HC, cellr, ha, fitV, yC, upd, narrow, fits, tyX7]
theorem pf7_12 {v : Int32} (ha : kd a = 7) : pf (HC z α π β η o od) 7 12 a (.int v) = some (HC z (up2 α a 12 v) π β η o od) := by
  rw [← up2_upA, ← hset_α (upd (α a) 12 v) rfl]
  simp [pf, HC, cellr, ha, fitV, yC, upd, narrow, fits, tyX7]
theorem pf7_13 {v : Int32} (ha : kd a = 7) (hv : v = 0 ∨ v = 1) : pf (HC z α π β η o od) 7 13 a (.int v) = some (HC z (up2 α a 13 v) π β η o od) := by
  rw [← up2_upA, ← hset_α (upd (α a) 13 v) rfl]
  rcases hv with rfl | rfl <;> simp [pf, HC, cellr, ha, fitV, yC, upd, narrow, fits, tyX7]
theorem pf7_14 {v : Int32} (ha : kd a = 7) (hv : v = 0 ∨ v = 1) : pf (HC z α π β η o od) 7 14 a (.int v) = some (HC z (up2 α a 14 v) π β η o od) := by
  rw [← up2_upA, ← hset_α (upd (α a) 14 v) rfl]
  rcases hv with rfl | rfl <;> simp [pf, HC, cellr, ha, fitV, yC, upd, narrow, fits, tyX7]
theorem gaI40 {i : Int32} (ha : kd a = 40) (hi : inB i (aln a) = true) : gaI (HC z α π β η o od) a i = some (α a i.toNatClampNeg) := by simp [gaI, HC, cellr, ha, hi]
theorem gaI40n {i : Int32} (ha : kd a = 40) (hi : inB i (aln a) = false) : gaI (HC z α π β η o od) a i = none := by simp [gaI, HC, cellr, ha, hi]
theorem gaI1 {i : Int32} (hi : inB i 6 = true) : gaI (HC z α π β η o od) 1 i = some (rowStep i.toNatClampNeg) := by
  have h : kd 1 = 30 := by decide
  simp [gaI, HC, cellr, h, hi]
theorem gaI2 {i : Int32} (hi : inB i 6 = true) : gaI (HC z α π β η o od) 2 i = some (colStep i.toNatClampNeg) := by
  have h : kd 2 = 30 := by decide
  simp [gaI, HC, cellr, h, hi]
theorem gaI0 {i : Int32} (hi : inB i z.2.2.1 = true) : gaI (HC z α π β η o od) 0 i = some (z.2.2.2 i.toNatClampNeg) := by
  have h : kd 0 = 30 := by decide
  simp [gaI, HC, cellr, h, hi]
theorem alen0 : alen (HC z α π β η o od) 0 = some z.2.2.1 := by
  have h : kd 0 = 30 := by decide
  simp [alen, HC, cellr, h]
theorem alen40 (ha : kd a = 40) : alen (HC z α π β η o od) a = some (aln a) := by simp [alen, HC, cellr, ha]
theorem kd_ge3 {c : Nat} (ha : kd a = c) (hc : c ≠ 30) : 3 ≤ a := by
  rcases Nat.lt_or_ge a 3 with q | q
  · have : ∀ a, a < 3 → kd a = 30 := by decide
    exact absurd ((this a q).symm.trans ha).symm hc
  · exact q
theorem paI40 {i v : Int32} (ha : kd a = 40) (hi : inB i (aln a) = true) : paI (HC z α π β η o od) a i v = some (HC z (up2 α a i.toNatClampNeg v) π β η o od) := by
  rw [← up2_upA, ← hset_α (upd (α a) i.toNatClampNeg v) rfl]
  have h3 := kd_ge3 ha (by decide)
  simp [paI, HC, cellr, ha, hi, h3]
theorem gaR21 {i : Int32} (ha : kd a = 21) (hi : inB i 8 = true) : gaR (HC z α π β η o od) a i = some (some (a + 1 + i.toNatClampNeg)) := by
  have h8 : i.toNatClampNeg < 8 := by
    simp only [inB, Bool.not_eq_true', Bool.or_eq_false_iff, decide_eq_false_iff_not] at hi
    omega
  simp [gaR, HC, cellr, ha, hi, h8]
theorem gaR22 {i : Int32} (ha : kd a = 22) (hi : inB i 4 = true) : gaR (HC z α π β η o od) a i = some (some (π i.toNatClampNeg)) := by
  have h8 : i.toNatClampNeg < 4 := by
    simp only [inB, Bool.not_eq_true', Bool.or_eq_false_iff, decide_eq_false_iff_not] at hi
    omega
  simp [gaR, HC, cellr, ha, hi, h8]
theorem kd22 {a : Nat} (h : kd a = 22) : a = 16 := by
  have hl : a < 70 := by rcases Nat.lt_or_ge a 70 with q | q; exact q; (unfold kd at h; rw [List.getD_eq_getElem?_getD, List.getElem?_eq_none (by exact q)] at h; cases h)
  have : ∀ a, a < 70 → kd a = 22 → a = 16 := by decide +kernel
  exact this a hl h
theorem paR22 {i : Int32} {v : Nat} (ha : kd a = 22) (hi : inB i 4 = true) (hv : kd v = 6) : paR (HC z α π β η o od) a i v = some (HC z α (fun j => if j = i.toNatClampNeg then v else π j) β η o od) := by
  have e := kd22 ha
  subst e
  have hO : isO (HC z α π β η o od) v 6 = true := isO_HC hv (by omega)
  have h8 : i.toNatClampNeg < 4 := by
    simp only [inB, Bool.not_eq_true', Bool.or_eq_false_iff, decide_eq_false_iff_not] at hi
    omega
  have h1 : paR (HC z α π β η o od) 16 i v = some (hset (HC z α π β η o od) 16 (cellr z (fun j => if j = i.toNatClampNeg then v else π j) η o od 16 (α 16) (β 16))) := by
    have e1 : (HC z α π β η o od).2.2.2 16 = .inl (2, 4, .inr (.inr (.inr (.inr (fun i => if i < 4 then some (π i) else none))))) := rfl
    unfold paR
    rw [e1]
    dsimp only
    rw [if_pos ⟨Or.inr rfl, hi, hO⟩]
    congr 2
    show Sum.inl (2, 4, _) = Sum.inl (2, 4, _)
    congr 7
    funext j
    unfold va_up
    by_cases hj : j = i.toNatClampNeg
    · subst hj; simp [h8]
    · simp [hj]
  rw [h1]
  congr 1
  unfold hset HC
  simp only [Prod.mk.injEq, true_and]
  funext j
  by_cases h : j = 16
  · subst h; rw [if_pos rfl]
  · rw [if_neg h]
    have hj : kd j ≠ 22 := fun q => h (kd22 q)
    unfold cellr
    split <;> first | rfl | (next q => exact absurd q hj)
theorem hbump_HC : hbump (HC z α π β η o od) = HC (z.1 + 1, z.2.1 + 6, z.2.2) α π β η o od := rfl
theorem upd_at (f : Nat → Int32) (k : Nat) (v : Int32) : upd f k v k = v := by unfold upd; rw [if_pos rfl]
theorem upd_ne (f : Nat → Int32) {k j : Nat} (h : j ≠ k) (v : Int32) : upd f k v j = f j := by unfold upd; rw [if_neg h]
end HCR
