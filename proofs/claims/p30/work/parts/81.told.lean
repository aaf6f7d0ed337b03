/-! what the law's wrappers answer on a sea that is right -/
theorem nShip {α : Mem} {n : Nat} (H : Ok α n) : ¬ isShipC α 4 (J n) := by
  intro w
  have h8 := H.n8
  have := w.2.1
  rw [H.hn, J_lt (by omega) (by omega)] at this
  omega
theorem mShip {α : Mem} : ¬ isShipC α 4 (-1) := fun w => absurd w.1 (by decide)
theorem nCell {α : Mem} {n : Nat} (H : Ok α n) : ¬ isCellC α 4 (α 4 0 * α 4 1) := fun w => by
  have := w.2.1
  rw [i32_lt] at this
  omega
theorem mCell {α : Mem} : ¬ isCellC α 4 (-1) := fun w => absurd w.1 (by decide)
theorem zCell {α : Mem} {n : Nat} (H : Ok α n) : isCellC α 4 0 := by
  have h := H.wh
  refine ⟨by decide, ?_, by decide⟩
  rw [i32_lt, h.1, ti0]
  omega
section S81
variable {z : Zr} {α β γ : Mem} {π : Nat → Nat} {η : Int64} {o : Nat → Int64} {od : Nat → UInt64} {n l k : Nat}
theorem t125_0 (H : Ok α n) : Run 125 0 [some (.ref (3)), some (.int (0)), none] [] (HC z α π β η o od) = some (.inl (some (.int (α 4 0))), (HC z α π β η o od)) := w125_ok _ (s87 H (m := 0) (by decide))
theorem t125_1 (H : Ok α n) : Run 125 0 [some (.ref (3)), some (.int (1)), none] [] (HC z α π β η o od) = some (.inl (some (.int (α 4 1))), (HC z α π β η o od)) := w125_ok _ (s87 H (m := 1) (by decide))
theorem t125_2 (H : Ok α n) : Run 125 0 [some (.ref (3)), some (.int (2)), none] [] (HC z α π β η o od) = some (.inl (some (.int (α 4 2))), (HC z α π β η o od)) := w125_ok _ (s87 H (m := 2) (by decide))
theorem t125_3 (H : Ok α n) : Run 125 0 [some (.ref (3)), some (.int (3)), none] [] (HC z α π β η o od) = some (.inl (some (.int (α 4 3))), (HC z α π β η o od)) := w125_ok _ (s87 H (m := 3) (by decide))
theorem t125_4 (H : Ok α n) : Run 125 0 [some (.ref (3)), some (.int (4)), none] [] (HC z α π β η o od) = some (.inl (some (.int (α 4 4))), (HC z α π β η o od)) := w125_ok _ (s87 H (m := 4) (by decide))
theorem t125_5 (H : Ok α n) : Run 125 0 [some (.ref (3)), some (.int (5)), none] [] (HC z α π β η o od) = some (.inl (some (.int (α 4 5))), (HC z α π β η o od)) := w125_ok _ (s87 H (m := 5) (by decide))
theorem t125_6 (H : Ok α n) : Run 125 0 [some (.ref (3)), some (.int (6)), none] [] (HC z α π β η o od) = some (.inl (some (.int (valC α n 6))), (HC z α π β η o od)) := w125_ok _ (s87 H (m := 6) (by decide))
theorem t125_7 (H : Ok α n) : Run 125 0 [some (.ref (3)), some (.int (7)), none] [] (HC z α π β η o od) = some (.inl (some (.int (valC α n 7))), (HC z α π β η o od)) := w125_ok _ (s87 H (m := 7) (by decide))
theorem t125_8 (H : Ok α n) : Run 125 0 [some (.ref (3)), some (.int (8)), none] [] (HC z α π β η o od) = some (.inl (some (.int (valC α n 8))), (HC z α π β η o od)) := w125_ok _ (s87 H (m := 8) (by decide))
theorem t125_9 (H : Ok α n) : Run 125 0 [some (.ref (3)), some (.int (9)), none] [] (HC z α π β η o od) = some (.inl (some (.int (valC α n 9))), (HC z α π β η o od)) := w125_ok _ (s87 H (m := 9) (by decide))
theorem t125_x : Run 125 0 [some (.ref (3)), some (.int (-1)), none] [] (HC z α π β η o od) = some (.inl (some (.int (-901))), HC (zb z) α π β η o od) := w125_A _ (s87n (by decide))
theorem t126_0 (H : Ok α n) {i : Nat} (hi : i < n) : Run 126 0 [some (.ref (3)), some (.int (J i)), some (.int (0)), none] [] (HC z α π β η o od) = some (.inl (some (.int (α (7 + i) 0))), (HC z α π β η o od)) := w126_ok _ _ (s88 H hi (m := 0) (by decide))
theorem t126_1 (H : Ok α n) {i : Nat} (hi : i < n) : Run 126 0 [some (.ref (3)), some (.int (J i)), some (.int (1)), none] [] (HC z α π β η o od) = some (.inl (some (.int (if 0 < α (7 + i) 3 then α (7 + i) 1 else -1))), (HC z α π β η o od)) := w126_ok _ _ (s88 H hi (m := 1) (by decide))
theorem t126_1a (H : Ok α n) {i : Nat} (hi : i < n) (ha : 0 < α (7 + i) 3) : Run 126 0 [some (.ref (3)), some (.int (J i)), some (.int (1)), none] [] (HC z α π β η o od) = some (.inl (some (.int (α (7 + i) 1))), (HC z α π β η o od)) := by rw [t126_1 H hi, if_pos ha]
theorem t126_1s (H : Ok α n) {i : Nat} (hi : i < n) (ha : ¬ 0 < α (7 + i) 3) : Run 126 0 [some (.ref (3)), some (.int (J i)), some (.int (1)), none] [] (HC z α π β η o od) = some (.inl (some (.int (-1))), (HC z α π β η o od)) := by rw [t126_1 H hi, if_neg ha]
theorem t126_2 (H : Ok α n) {i : Nat} (hi : i < n) : Run 126 0 [some (.ref (3)), some (.int (J i)), some (.int (2)), none] [] (HC z α π β η o od) = some (.inl (some (.int (α (7 + i) 2))), (HC z α π β η o od)) := w126_ok _ _ (s88 H hi (m := 2) (by decide))
theorem t126_3 (H : Ok α n) {i : Nat} (hi : i < n) : Run 126 0 [some (.ref (3)), some (.int (J i)), some (.int (3)), none] [] (HC z α π β η o od) = some (.inl (some (.int (α (7 + i) 3))), (HC z α π β η o od)) := w126_ok _ _ (s88 H hi (m := 3) (by decide))
theorem t126_4 (H : Ok α n) {i : Nat} (hi : i < n) : Run 126 0 [some (.ref (3)), some (.int (J i)), some (.int (4)), none] [] (HC z α π β η o od) = some (.inl (some (.int (α (7 + i) 4))), (HC z α π β η o od)) := w126_ok _ _ (s88 H hi (m := 4) (by decide))
theorem t126_5 (H : Ok α n) {i : Nat} (hi : i < n) : Run 126 0 [some (.ref (3)), some (.int (J i)), some (.int (5)), none] [] (HC z α π β η o od) = some (.inl (some (.int (α (7 + i) 5))), (HC z α π β η o od)) := w126_ok _ _ (s88 H hi (m := 5) (by decide))
theorem t126_6 (H : Ok α n) {i : Nat} (hi : i < n) : Run 126 0 [some (.ref (3)), some (.int (J i)), some (.int (6)), none] [] (HC z α π β η o od) = some (.inl (some (.int (α (7 + i) 6))), (HC z α π β η o od)) := w126_ok _ _ (s88 H hi (m := 6) (by decide))
theorem t126_7 (H : Ok α n) {i : Nat} (hi : i < n) : Run 126 0 [some (.ref (3)), some (.int (J i)), some (.int (7)), none] [] (HC z α π β η o od) = some (.inl (some (.int (α (7 + i) 7))), (HC z α π β η o od)) := w126_ok _ _ (s88 H hi (m := 7) (by decide))
theorem t126_8 (H : Ok α n) {i : Nat} (hi : i < n) : Run 126 0 [some (.ref (3)), some (.int (J i)), some (.int (8)), none] [] (HC z α π β η o od) = some (.inl (some (.int (α (7 + i) 9))), (HC z α π β η o od)) := w126_ok _ _ (s88 H hi (m := 8) (by decide))
theorem t126_9 (H : Ok α n) {i : Nat} (hi : i < n) : Run 126 0 [some (.ref (3)), some (.int (J i)), some (.int (9)), none] [] (HC z α π β η o od) = some (.inl (some (.int (α (7 + i) 10))), (HC z α π β η o od)) := w126_ok _ _ (s88 H hi (m := 9) (by decide))
theorem t126_10 (H : Ok α n) {i : Nat} (hi : i < n) : Run 126 0 [some (.ref (3)), some (.int (J i)), some (.int (10)), none] [] (HC z α π β η o od) = some (.inl (some (.int (α (7 + i) 11))), (HC z α π β η o od)) := w126_ok _ _ (s88 H hi (m := 10) (by decide))
theorem t126_11 (H : Ok α n) {i : Nat} (hi : i < n) : Run 126 0 [some (.ref (3)), some (.int (J i)), some (.int (11)), none] [] (HC z α π β η o od) = some (.inl (some (.int (α (7 + i) 12))), (HC z α π β η o od)) := w126_ok _ _ (s88 H hi (m := 11) (by decide))
theorem t126_12 (H : Ok α n) {i : Nat} (hi : i < n) : Run 126 0 [some (.ref (3)), some (.int (J i)), some (.int (12)), none] [] (HC z α π β η o od) = some (.inl (some (.int (spdC α (7 + i) (hdA α (7 + i)) (wdN α)))), (HC z α π β η o od)) := w126_ok _ _ (s88 H hi (m := 12) (by decide))
theorem t126_13 (H : Ok α n) {i : Nat} (hi : i < n) : Run 126 0 [some (.ref (3)), some (.int (J i)), some (.int (13)), none] [] (HC z α π β η o od) = some (.inl (some (.int (J (angN (hdA α (7 + i)) (wdN α))))), (HC z α π β η o od)) := w126_ok _ _ (s88 H hi (m := 13) (by decide))
theorem t126_14 (H : Ok α n) {i : Nat} (hi : i < n) : Run 126 0 [some (.ref (3)), some (.int (J i)), some (.int (14)), none] [] (HC z α π β η o od) = some (.inl (some (.int (α (7 + i) 13))), (HC z α π β η o od)) := w126_ok _ _ (s88 H hi (m := 14) (by decide))
theorem t126_x (H : Ok α n) : Run 126 0 [some (.ref (3)), some (.int (J n)), some (.int (99)), none] [] (HC z α π β η o od) = some (.inl (some (.int (-903))), HC (zb z) α π β η o od) := w126_I _ _ (s88n (nShip H))
theorem t127 (H : Ok α n) {c : Int32} (h : isCellC α 4 c) : Run 127 0 [some (.ref (3)), some (.int (c)), none] [] (HC z α π β η o od) = some (.inl (some (.int (thingC α n c))), (HC z α π β η o od)) := w127_ok _ (s89 H h)
theorem t127_x (H : Ok α n) : Run 127 0 [some (.ref (3)), some (.int (α 4 0 * α 4 1)), none] [] (HC z α π β η o od) = some (.inl (some (.int (-903))), HC (zb z) α π β η o od) := w127_I _ (s89n (nCell H))
theorem t128 (H : Ok α n) {a b : Int32} (ha : isCellC α 4 a) (hb : isCellC α 4 b) : Run 128 0 [some (.ref (3)), some (.int (a)), some (.int (b)), none] [] (HC z α π β η o od) = some (.inl (some (.int (frC α a b))), (HC z α π β η o od)) := w128_ok _ _ (s90 H ⟨ha, hb⟩)
theorem t128_x (H : Ok α n) : Run 128 0 [some (.ref (3)), some (.int (α 4 0 * α 4 1)), some (.int (0)), none] [] (HC z α π β η o od) = some (.inl (some (.int (-903))), HC (zb z) α π β η o od) := w128_I _ _ (s90n (fun w => nCell H w.1))
theorem t129 (H : Ok α n) {a b : Int32} (ha : isCellC α 4 a) (hb : isCellC α 4 b) : Run 129 0 [some (.ref (3)), some (.int (a)), some (.int (b)), none] [] (HC z α π β η o od) = some (.inl (some (.int (sgC α a b))), (HC z α π β η o od)) := w129_ok _ _ (s91 H ⟨ha, hb⟩)
theorem t129_x : Run 129 0 [some (.ref (3)), some (.int (0)), some (.int (-1)), none] [] (HC z α π β η o od) = some (.inl (some (.int (-903))), HC (zb z) α π β η o od) := w129_I _ _ (s91n (fun w => mCell w.2))
theorem t121_xa : Run 121 0 [some (.ref (3)), some (.int (3)), some (.int (4)), none] [] (HC z α π β η o od) = some (.inl (some (.int (-901))), HC (zb z) α π β η o od) := w121_A _ _ (s83n (by decide))
theorem t121_xb : Run 121 0 [some (.ref (3)), some (.int (4)), some (.int (13)), none] [] (HC z α π β η o od) = some (.inl (some (.int (-901))), HC (zb z) α π β η o od) := w121_A _ _ (s83n (by decide))
theorem t122_xa (H : Ok α n) (b : Int32) : Run 122 0 [some (.ref (3)), some (.int (α 4 0 * α 4 1)), some (.int (b)), none] [] (HC z α π β η o od) = some (.inl (some (.int (-903))), HC (zb z) α π β η o od) := w122_I _ _ (s84n (nCell H))
theorem t122_xb (b : Int32) : Run 122 0 [some (.ref (3)), some (.int (-1)), some (.int (b)), none] [] (HC z α π β η o od) = some (.inl (some (.int (-903))), HC (zb z) α π β η o od) := w122_I _ _ (s84n mCell)
theorem t122_m (H : Ok α n) {c b : Int32} (hc : isCellC α 4 c) (h1 : ¬ shipOnF α c n 0 = -1) : Run 122 0 [some (.ref (3)), some (.int (c)), some (.int (b)), none] [] (HC z α π β η o od) = some (.inl (some (.int (-902))), HC (zb z) α π β η o od) := w122_S _ _ (s84m H hc h1)
theorem t123_xa : Run 123 0 [some (.ref (3)), some (.int (-1)), some (.int (0)), none] [] (HC z α π β η o od) = some (.inl (some (.int (-901))), HC (zb z) α π β η o od) := w123_A _ _ (s85n (by decide))
theorem t123_xb : Run 123 0 [some (.ref (3)), some (.int (0)), some (.int (-1)), none] [] (HC z α π β η o od) = some (.inl (some (.int (-901))), HC (zb z) α π β η o od) := w123_A _ _ (s85n (by decide))
theorem t130_x (H : Ok α n) : Run 130 0 [some (.ref (3)), some (.int (J n)), none] [] (HC z α π β η o od) = some (.inl (some (.int (-903))), HC (zb z) α π β η o od) := w130_I _ (s92n (nShip H))
theorem t130_m (H : Ok α n) {i : Nat} (hi : i < n) (hm : ¬ canMoveC α n i) : Run 130 0 [some (.ref (3)), some (.int (J i)), none] [] (HC z α π β η o od) = some (.inl (some (.int (-902))), HC (zb z) α π β η o od) := w130_S _ (s92m H hi hm)
theorem t131_x (r : Int32) : Run 131 0 [some (.ref (3)), some (.int (-1)), some (.int (r)), none] [] (HC z α π β η o od) = some (.inl (some (.int (-903))), HC (zb z) α π β η o od) := w131_I _ _ (s93n mShip)
theorem t131_m (H : Ok α n) {i : Nat} (hi : i < n) {r : Int32} (hr : r = 0 ∨ r = 1) (hm : ¬ canSwingC α i r) : Run 131 0 [some (.ref (3)), some (.int (J i)), some (.int (r)), none] [] (HC z α π β η o od) = some (.inl (some (.int (-902))), HC (zb z) α π β η o od) := w131_S _ _ (s93m H hi hr hm)
theorem t132 (H : Ok α n) {i j : Nat} (hi : i < n) (hj : j < n) (hij : i ≠ j) {r : Int32} (hr : r = 0 ∨ r = 1) : Run 132 0 [some (.ref (3)), some (.int (J i)), some (.int (r)), some (.int (J j)), none] [] (HC z α π β η o od) = some (.inl (some (.int (forceC α n i r j))), (HC z α π β η o od)) := w132_ok _ _ _ (s95 H hi hj hij hr)
theorem t132_e (H : Ok α n) {i : Nat} (hi : i < n) (r : Int32) : Run 132 0 [some (.ref (3)), some (.int (J i)), some (.int (r)), some (.int (J i)), none] [] (HC z α π β η o od) = some (.inl (some (.int (-901))), HC (zb z) α π β η o od) := w132_A _ _ _ (s95e (isShip_J H.hn H.n8 hi))
theorem t132_x (H : Ok α n) (r : Int32) : Run 132 0 [some (.ref (3)), some (.int (J n)), some (.int (r)), some (.int (J n)), none] [] (HC z α π β η o od) = some (.inl (some (.int (-903))), HC (zb z) α π β η o od) := w132_I _ _ _ (s95n (fun w => nShip H w.1))
theorem t133_x (H : Ok α n) (r : Int32) : Run 133 0 [some (.ref (3)), some (.int (J n)), some (.int (r)), some (.int (J n)), some (.int (9)), none] [] (HC z α π β η o od) = some (.inl (some (.int (-903))), HC (zb z) α π β η o od) := w133_I _ _ _ _ (s96n (fun w => nShip H w.1))
theorem t133_e (H : Ok α n) {i : Nat} (hi : i < n) (r aim : Int32) : Run 133 0 [some (.ref (3)), some (.int (J i)), some (.int (r)), some (.int (J i)), some (.int (aim)), none] [] (HC z α π β η o od) = some (.inl (some (.int (-901))), HC (zb z) α π β η o od) := w133_A _ _ _ _ (s96e (isShip_J H.hn H.n8 hi))
theorem t133_m (H : Ok α n) {i j : Nat} (hi : i < n) (hj : j < n) (hij : i ≠ j) {r : Int32} (hr : r = 0 ∨ r = 1) {aim : Int32} (ha : aimC aim) (hm : ¬ canShootC α n i r j aim) : Run 133 0 [some (.ref (3)), some (.int (J i)), some (.int (r)), some (.int (J j)), some (.int (aim)), none] [] (HC z α π β η o od) = some (.inl (some (.int (-902))), HC (zb z) α π β η o od) := w133_S _ _ _ _ (s96m H hi hj hij hr ha hm)
theorem t134_x (H : Ok α n) : Run 134 0 [some (.ref (3)), some (.int (J n)), some (.int (J n)), none] [] (HC z α π β η o od) = some (.inl (some (.int (-903))), HC (zb z) α π β η o od) := w134_I _ _ (s97n (fun w => nShip H w.1))
theorem t134_e (H : Ok α n) {i : Nat} (hi : i < n) : Run 134 0 [some (.ref (3)), some (.int (J i)), some (.int (J i)), none] [] (HC z α π β η o od) = some (.inl (some (.int (-901))), HC (zb z) α π β η o od) := w134_A _ _ (s97e (isShip_J H.hn H.n8 hi))
theorem t134_m (H : Ok α n) {i j : Nat} (hi : i < n) (hj : j < n) (hij : i ≠ j) (hm : ¬ canTieC α i j) : Run 134 0 [some (.ref (3)), some (.int (J i)), some (.int (J j)), none] [] (HC z α π β η o od) = some (.inl (some (.int (-902))), HC (zb z) α π β η o od) := w134_S _ _ (s97m H hi hj hij hm)
theorem t135_x (H : Ok α n) : Run 135 0 [some (.ref (3)), some (.int (J n)), none] [] (HC z α π β η o od) = some (.inl (some (.int (-903))), HC (zb z) α π β η o od) := w135_I _ (s98n (nShip H))
theorem t135_m (H : Ok α n) {i : Nat} (hi : i < n) (hm : α (7 + i) 12 = -1) : Run 135 0 [some (.ref (3)), some (.int (J i)), none] [] (HC z α π β η o od) = some (.inl (some (.int (-902))), HC (zb z) α π β η o od) := w135_S _ (s98m H hi hm)
theorem t136_x : Run 136 0 [some (.ref (3)), some (.int (-1)), none] [] (HC z α π β η o od) = some (.inl (some (.int (-903))), HC (zb z) α π β η o od) := w136_I _ (s99n mShip)
theorem t136_m (H : Ok α n) {i : Nat} (hi : i < n) (hm : α (7 + i) 12 = -1 ∨ ¬ α (7 + i) 13 = 0) : Run 136 0 [some (.ref (3)), some (.int (J i)), none] [] (HC z α π β η o od) = some (.inl (some (.int (-902))), HC (zb z) α π β η o od) := w136_S _ (s99m H hi hm)
theorem t137 (H : Ok α n) {i : Nat} (hi : i < n) : ∃ α' r, Run 137 0 [some (.ref (3)), some (.int (J i)), none] [] (HC z α π β η o od) = some (.inl (some (.int (r))), (HC z α' π β η o od)) ∧ Fc α α' ∧ RV α n i r := by
  obtain ⟨α', r, h1, h2, h3⟩ := s100 (z := z) (π := π) (β := β) (η := η) (o := o) (od := od) H hi
  exact ⟨α', r, w137_ok _ h1, h2, h3⟩
theorem t137_x (H : Ok α n) : Run 137 0 [some (.ref (3)), some (.int (J n)), none] [] (HC z α π β η o od) = some (.inl (some (.int (-903))), HC (zb z) α π β η o od) := w137_I _ (s100n (nShip H))
theorem t138 (H : Ok α n) {i : Nat} (hi : i < n) {x : Nat} (hx : x < 144) (hc : isCellC α 4 (J x)) : ∃ α' r, Run 138 0 [some (.ref (3)), some (.int (J i)), some (.int (J x)), none] [] (HC z α π β η o od) = some (.inl (some (.int (r))), (HC z α' π β η o od)) ∧ Fc α α' ∧ PV α n i x r := by
  obtain ⟨α', r, h1, h2, h3⟩ := s101 (z := z) (π := π) (β := β) (η := η) (o := o) (od := od) H hi hx hc
  exact ⟨α', r, w138_ok _ _ h1, h2, h3⟩
theorem t138_x (H : Ok α n) (c : Int32) : Run 138 0 [some (.ref (3)), some (.int (J n)), some (.int (c)), none] [] (HC z α π β η o od) = some (.inl (some (.int (-903))), HC (zb z) α π β η o od) := w138_I _ _ (s101n (fun w => nShip H w.1))
theorem t139 (H : Ok α n) {i : Nat} (hi : i < n) : Run 139 0 [some (.ref (3)), some (.int (J i)), none] [] (HC z α π β η o od) = some (.inl (some (.int ((bsL α n i n 0 (-1, 0)).1))), (HC z α π β η o od)) := w139_ok _ (s102 H hi)
theorem t139_x (H : Ok α n) : Run 139 0 [some (.ref (3)), some (.int (J n)), none] [] (HC z α π β η o od) = some (.inl (some (.int (-903))), HC (zb z) α π β η o od) := w139_I _ (s102n (nShip H))
theorem t140 (H : Ok α n) {i : Nat} (hi : i < n) : Run 140 0 [some (.ref (3)), some (.int (J i)), none] [] (HC z α π β η o od) = some (.inl (some (.int (J (fwF (spdC α (7 + i) (hdA α (7 + i))) 5 1 0)))), (HC z α π β η o od)) := w140_ok _ (s103 H hi)
theorem t140_x : Run 140 0 [some (.ref (3)), some (.int (-1)), none] [] (HC z α π β η o od) = some (.inl (some (.int (-903))), HC (zb z) α π β η o od) := w140_I _ (s103n mShip)
theorem t141 (H : Ok α n) {s : Int32} (hs : sideC s) : Run 141 0 [some (.ref (3)), some (.int (s)), none] [] (HC z α π β η o od) = some (.inl (some (.double (balC α n s))), (HC z α π β η o od)) := w141_ok _ (s104 H hs)
theorem t141_x : Run 141 0 [some (.ref (3)), some (.int (-1)), none] [] (HC z α π β η o od) = some (.inl (some (.double 13874508532486766592)), HC (zb z) α π β η o od) := w141_A _ (s104n (by decide))
theorem t142_x : Run 142 0 [some (.ref (3)), some (.int (128)), none] [] (HC z α π β η o od) = some (.inl (some (.int (-901))), HC (zb z) α π β η o od) := w142_A _ (s105n (by decide))
theorem t143_x (hk : α 15 1 = J 0) : Run 143 0 [some (.ref (3)), none] [] (HC z α π β η o od) = some (.inl (some (.int (-902))), HC (zb z) α π β η o od) := w143_S (s107n hk)
end S81
