/-! THE TIE, first half: what a state of the interpreter says of the Statement's machine -/
abbrev GG := (Nat → ClassId) × (Nat → Nat → Nat) × (Nat → ClassId) × (Nat → Nat) × (Nat → Nat) × (Nat → Nat → Int32)
def gD (g : GG) : va_G := (g.1, g.2.1)
def gA (g : GG) : Nat → ClassId := g.2.2.1
def gO (g : GG) : Nat → Nat := g.2.2.2.1
def gN (g : GG) : Nat → Nat := g.2.2.2.2.1
def gF (g : GG) : Nat → Nat → Int32 := g.2.2.2.2.2
def gT (g : GG) : List (ClassId × FieldType) := (List.range 3).map fun t => (gA g t, tyO t)
theorem gT_at (g : GG) {t : Nat} (h : t < 3) : (gT g)[t]? = some (gA g t, tyO t) := by simp [gT, h]
def rv (ρ : Nat → Nat) : Value → Value
  | .ref k => .ref (ρ k)
  | v => v
abbrev Dt := (Nat → Int32) ⊕ (Nat → Int64) ⊕ (Nat → UInt32) ⊕ (Nat → UInt64) ⊕ (Nat → Option Nat)
def rD (ρ : Nat → Nat) : Dt → Dt
  | .inr (.inr (.inr (.inr f))) => .inr (.inr (.inr (.inr (fun i => (f i).map ρ))))
  | d => d
def rE (g : GG) (ρ : Nat → Nat) : va_E → va_E
  | .inl (t, n, d) => .inl (gA g t, n, rD ρ d)
  | .inr (c, fs) => .inr (c, fs.map (rv ρ))
def okV (n : Nat) : Value → Prop
  | .ref k => k < n
  | _ => True
def okD (n : Nat) : Dt → Prop
  | .inr (.inr (.inr (.inr f))) => ∀ i k, f i = some k → k < n
  | _ => True
def okE (n : Nat) : va_E → Prop
  | .inl (t, _, d) => t < 3 ∧ okD n d
  | .inr (c, fs) => c < 9 ∧ ∀ v ∈ fs, okV n v
def wl (g : GG) (ρ : Nat → Nat) (h : Hp) : va_W := (List.range (h.1 - 3)).map fun j => (ρ (j + 3), rE g ρ (h.2.2.2 (j + 3)))
theorem wl_at (g : GG) (ρ : Nat → Nat) (h : Hp) {a : Nat} (h3 : 3 ≤ a) (ha : a < h.1) : (wl g ρ h)[a - 3]? = some (ρ a, rE g ρ (h.2.2.2 a)) := by
  have e : a - 3 + 3 = a := by omega
  have hl : a - 3 < h.1 - 3 := by omega
  simp [wl, hl, e]
theorem okV_le {n k : Nat} (h : n ≤ k) {v : Value} (hv : okV n v) : okV k v := by
  cases v <;> first | trivial | exact Nat.lt_of_lt_of_le hv h
theorem okD_le {n k : Nat} (h : n ≤ k) {d : Dt} (hd : okD n d) : okD k d := by
  rcases d with f | f | f | f | f <;> first | trivial | exact fun i j hj => Nat.lt_of_lt_of_le (hd i j hj) h
theorem okE_le {n k : Nat} (h : n ≤ k) {x : va_E} (hx : okE n x) : okE k x := by
  rcases x with ⟨t, N, d⟩ | ⟨c, fs⟩
  · exact ⟨hx.1, okD_le h hx.2⟩
  · exact ⟨hx.1, fun v hv => okV_le h (hx.2 v hv)⟩
theorem rv_ext {ρ σ : Nat → Nat} {n : Nat} (h : ∀ k, k < n → σ k = ρ k) {v : Value} (hv : okV n v) : rv σ v = rv ρ v := by
  cases v <;> first | rfl | (show Value.ref _ = Value.ref _; rw [h _ hv])
theorem rD_ext {ρ σ : Nat → Nat} {n : Nat} (h : ∀ k, k < n → σ k = ρ k) {d : Dt} (hd : okD n d) : rD σ d = rD ρ d := by
  rcases d with f | f | f | f | f <;> first | rfl | skip
  show Sum.inr (Sum.inr (Sum.inr (Sum.inr _))) = Sum.inr (Sum.inr (Sum.inr (Sum.inr _)))
  congr 4
  funext i
  cases hi : f i with
  | none => rfl
  | some k => simp [h k (hd i k hi)]
theorem rE_ext {ρ σ : Nat → Nat} {n : Nat} (g : GG) (h : ∀ k, k < n → σ k = ρ k) {x : va_E} (hx : okE n x) : rE g σ x = rE g ρ x := by
  rcases x with ⟨t, N, d⟩ | ⟨c, fs⟩
  · show Sum.inl (gA g t, N, rD σ d) = Sum.inl (gA g t, N, rD ρ d)
    rw [rD_ext h hx.2]
  · show Sum.inr (c, fs.map (rv σ)) = Sum.inr (c, fs.map (rv ρ))
    rw [List.map_congr_left fun v hv => rv_ext h (hx.2 v hv)]
theorem wl_set (g : GG) (ρ : Nat → Nat) (h : Hp) {a : Nat} (h3 : 3 ≤ a) (x : va_E) : wl g ρ (hset h a x) = (wl g ρ h).set (a - 3) (ρ a, rE g ρ x) := by
  apply List.ext_getElem?
  intro j
  by_cases hj : j < h.1 - 3
  · by_cases hja : j = a - 3
    · subst hja
      have e : a - 3 + 3 = a := by omega
      simp [wl, hset, hj, e]
    · have hne : j + 3 ≠ a := by omega
      rw [List.getElem?_set_ne (fun q => hja q.symm)]
      simp [wl, hset, hj, hne]
  · have h1 : (wl g ρ (hset h a x)).length = h.1 - 3 := by simp [wl, hset]
    have h2 : ((wl g ρ h).set (a - 3) (ρ a, rE g ρ x)).length = h.1 - 3 := by simp [wl]
    rw [List.getElem?_eq_none (by omega), List.getElem?_eq_none (by omega)]
def Pic (base : Nat) (g : GG) (ρ : Nat → Nat) (h : Hp) (H : Heap) : Prop :=
  va_P (gD g) vwCl (wl g ρ h) H ∧ va_D (fun q => base ≤ q) (wl g ρ h) ∧ 3 ≤ h.1 ∧ (∀ j, j < h.1 → okE h.1 (h.2.2.2 j)) ∧ ∀ j, j < 3 → ρ j = gO g j ∧ h.2.2.2 j = .inl (0, gN g j, .inl (gF g j))
theorem Pic.set {base : Nat} {g : GG} {ρ : Nat → Nat} {h : Hp} {H H1 : Heap} {a : Nat} {x : va_E} (P : Pic base g ρ h H) (h3 : 3 ≤ a) (hx : okE h.1 x) (hP : va_P (gD g) vwCl ((wl g ρ h).set (a - 3) (ρ a, rE g ρ x)) H1) (hD : va_D (fun q => base ≤ q) ((wl g ρ h).set (a - 3) (ρ a, rE g ρ x))) : Pic base g ρ (hset h a x) H1 := by
  obtain ⟨-, -, p3, p4, p5⟩ := P
  refine ⟨by rw [wl_set g ρ h h3]; exact hP, by rw [wl_set g ρ h h3]; exact hD, p3, fun j hj => ?_, fun j hj => ⟨(p5 j hj).1, ?_⟩⟩
  · show okE h.1 (if j = a then x else h.2.2.2 j)
    split
    · exact hx
    · exact p4 j hj
  · show (if j = a then x else h.2.2.2 j) = _
    rw [if_neg (by omega)]
    exact (p5 j hj).2
def ext (ρ : Nat → Nat) (n q : Nat) : Nat → Nat := fun j => if j = n then q else ρ j
theorem ext_lt (ρ : Nat → Nat) (n q : Nat) : ∀ k, k < n → ext ρ n q k = ρ k := fun k hk => by unfold ext; rw [if_neg (by omega)]
theorem wl_new (g : GG) (ρ : Nat → Nat) (h : Hp) (q k : Nat) {x : va_E} (h3 : 3 ≤ h.1) (ho : ∀ j, j < h.1 → okE h.1 (h.2.2.2 j)) (hx : okE h.1 x) : wl g (ext ρ h.1 q) (hnew h x k) = wl g ρ h ++ [(q, rE g ρ x)] := by
  have e1 : h.1 + 1 - 3 = (h.1 - 3) + 1 := by omega
  have e2 : h.1 - 3 + 3 = h.1 := by omega
  unfold wl hnew
  show (List.range (h.1 + 1 - 3)).map _ = _
  rw [e1, List.range_succ, List.map_append]
  congr 1
  · apply List.map_congr_left
    intro j hj
    have hj : j < h.1 - 3 := List.mem_range.mp hj
    have hne : j + 3 ≠ h.1 := by omega
    simp only [if_neg hne]
    rw [ext_lt ρ h.1 q _ (by omega), rE_ext g (ext_lt ρ h.1 q) (ho _ (by omega))]
  · simp only [List.map_cons, List.map_nil, e2, if_true]
    rw [rE_ext g (ext_lt ρ h.1 q) hx]
    simp [ext]
theorem Pic.push {base : Nat} {g : GG} {ρ : Nat → Nat} {h : Hp} {H H1 : Heap} {q k : Nat} {x : va_E} (P : Pic base g ρ h H) (hx : okE h.1 x) (hP : va_P (gD g) vwCl (wl g ρ h ++ [(q, rE g ρ x)]) H1) (hD : va_D (fun q => base ≤ q) (wl g ρ h ++ [(q, rE g ρ x)])) : Pic base g (ext ρ h.1 q) (hnew h x k) H1 := by
  obtain ⟨-, -, p3, p4, p5⟩ := P
  refine ⟨by rw [wl_new g ρ h q k p3 p4 hx]; exact hP, by rw [wl_new g ρ h q k p3 p4 hx]; exact hD, Nat.le_succ_of_le p3, fun j hj => ?_, fun j hj => ⟨?_, ?_⟩⟩
  · show okE (h.1 + 1) (if j = h.1 then x else h.2.2.2 j)
    split
    · exact okE_le (Nat.le_succ _) hx
    · next hne => exact okE_le (Nat.le_succ _) (p4 j (by have hj : j < h.1 + 1 := hj; omega))
  · rw [ext_lt ρ h.1 q j (by omega)]; exact (p5 j hj).1
  · show (if j = h.1 then x else h.2.2.2 j) = _
    rw [if_neg (by omega)]
    exact (p5 j hj).2
theorem Pic.kept {base : Nat} {g : GG} {ρ : Nat → Nat} {h : Hp} {H H1 : Heap} (P : Pic base g ρ h H) (hk : ∀ q, q < H.size → H1[q]? = H[q]?) : Pic base g ρ h H1 :=
  ⟨fun k q hq => (P.1 k q hq).kept (hk _ ((P.1 k q hq).lt)), P.2.1, P.2.2.1, P.2.2.2.1, P.2.2.2.2⟩
theorem Pic.bump {base : Nat} {g : GG} {ρ : Nat → Nat} {h : Hp} {H : Heap} (P : Pic base g ρ h H) : Pic base g ρ (hbump h) H := P
/-- words that hold on when the tables get warmer -/
def warmW : Cond → Bool
  | .declares _ => true
  | .castable _ _ => true
  | .methodLinkNest _ _ _ _ => true
  | w => goodWord w
theorem warmW_at {w : Cond} (h : warmW w = true) {A A' : Array Value} {s U : State} (hW : s.WarmedH U.vm) (hb : w.before A s = true) : w.before A' U = true := by
  cases w <;> first
    | exact va_Nw.use rfl (va_Nw.warmD hW (va_Nw.of rfl hb))
    | exact va_Nw.use rfl (va_Nw.warmC hW (va_Nw.of rfl hb))
    | exact va_Nw.use rfl (va_Nw.warmM hW (va_Nw.of rfl hb))
    | exact word_at hW (good_of_word h) hb
theorem good_warm {w : Cond} (h : goodWord w = true) : warmW w = true := by
  cases w <;> first | rfl | exact h
theorem exw_warm : ∀ e ∈ thrT, ∀ w ∈ vx_atS RX8 e.2.2.2.2.2.1 e.2.2.1 exN, warmW w = true := by
  have h : thrT.all (fun e => (vx_atS RX8 e.2.2.2.2.2.1 e.2.2.1 exN).all warmW) = true := by decide +kernel
  intro e he w hw
  exact List.all_eq_true.mp (List.all_eq_true.mp h e he) w hw
/-- what the tables and the old heap give, wherever we stand -/
def CT (base : Nat) (g : GG) (U : State) (H : Heap) : Prop :=
  va_K (gD g) vwCl (gT g) U ∧ base ≤ H.size ∧ (∀ w ∈ lw_tbl, warmW w = true → w.before #[] U = true) ∧
  (∀ j, j < 3 → va_T .int (gO g j) (gN g j) (fun i => .int (gF g j i)) (fun q => base ≤ q) U H) ∧
  (∀ a, a = 1 ∨ a = 2 → va_Z RX6 (staN a) "[I" (.ref (gO g a)) (fun q => base ≤ q) U H) ∧
  vx_Zq Bundle.tN "UNASSIGNED_STACK" Bundle.steD (fun q => base ≤ q) U H ∧ vx_Zq Bundle.tN "SUPPRESSED_SENTINEL" Bundle.listD (fun q => base ≤ q) U H ∧
  (∀ e ∈ thrT, ∃ sa, vk_R RX8 e.2.2.2.2.1 e.2.2.2.2.2.2.2 sa U) ∧ (∀ t, t = 1 ∨ t = 2 → va_AO (arN t) U) ∧
  (∀ i j : Nat, (i = 15 ∨ i = 21 ∨ i = 23) → (j = 15 ∨ j = 21 ∨ j = 23) → i ≠ j → va_Nc (catN i) (catN j) U)
theorem CT.warm {base : Nat} {g : GG} {s U : State} {H : Heap} (hW : s.WarmedH U.vm) (h : CT base g s H) : CT base g U H := by
  obtain ⟨c1, c2, c3, c4, c5, c6, c7, c8, c9, c10⟩ := h
  exact ⟨va_K.moved hW.alike c1, c2, fun w h1 h2 => warmW_at h2 hW (c3 w h1 h2), fun j hj => (c4 j hj).moved hW.alike, fun a ha => (c5 a ha).moved hW.alike, c6.moved hW.alike, c7.moved hW.alike, fun e he => by obtain ⟨sa, h⟩ := c8 e he; exact ⟨sa, h.warm hW⟩, fun t ht => (c9 t ht).moved hW.alike, fun i j hi hj hn => (c10 i j hi hj hn).moved hW.alike⟩
theorem CT.kept {base : Nat} {g : GG} {U : State} {H H1 : Heap} (h : CT base g U H) (hz : H.size ≤ H1.size) (hk : ∀ a : Nat, a < H.size → ¬ base ≤ a → H1[a]? = H[a]?) : CT base g U H1 := by
  obtain ⟨c1, c2, c3, c4, c5, c6, c7, c8, c9, c10⟩ := h
  exact ⟨c1, Nat.le_trans c2 hz, c3, fun j hj => (c4 j hj).kept hk, fun a ha => (c5 a ha).kept hk, c6.kept hk, c7.kept hk, c8, c9, c10⟩
theorem CT.calling {base : Nat} {g : GG} {U : State} {H : Heap} (h : CT base g U H) (gg : JFrame) (mk : MethodId) (a : Array Value) : CT base g (U.calling gg mk a) H := by
  obtain ⟨c1, c2, c3, c4, c5, c6, c7, c8, c9, c10⟩ := h
  have hvm : U.vm.Alike (U.calling gg mk a).vm := Vm.Alike.refl U.vm
  exact ⟨va_K.moved hvm c1, c2, fun w h1 h2 => warmW_at h2 (show U.WarmedH (U.calling gg mk a).vm from State.WarmedH.refl U) (c3 w h1 h2), fun j hj => (c4 j hj).moved hvm, fun q hq => (c5 q hq).moved hvm, c6.moved hvm, c7.moved hvm, fun e he => by obtain ⟨sa, h⟩ := c8 e he; exact ⟨sa, h.same rfl⟩, fun t ht => (c9 t ht).moved hvm, fun i j hi hj hn => (c10 i j hi hj hn).moved hvm⟩
theorem CT.word {base : Nat} {g : GG} {U : State} {H : Heap} (h : CT base g U H) {w : Cond} (hw : w ∈ Wg) (A : Array Value) : w.before A U = true := by
  have h1 := List.mem_filter.mp hw
  exact word_at (State.WarmedH.refl U) (good_of_word h1.2) (h.2.2.1 w h1.1 (good_warm h1.2))
theorem CT.wordW {base : Nat} {g : GG} {U : State} {H : Heap} (h : CT base g U H) {w : Cond} (hw : w ∈ lw_tbl) (hg : warmW w = true) (A : Array Value) : w.before A U = true :=
  warmW_at hg (State.WarmedH.refl U) (h.2.2.1 w hw hg)
def LV (ρ : Nat → Nat) (n : Nat) (L : Lo) (ls : Array Slot) (nL : Nat) : Prop := L.length = nL ∧ ls.size = nL ∧ lv_wf ls ∧ ∀ (k : Nat) (v : Value), L[k]? = some (some v) → okV n v ∧ ls[k]? = some (Slot.val (rv ρ v))
theorem lget_at {L : Lo} {k : Nat} {v : Value} (h : lget L k = some v) : L[k]? = some (some v) := by
  unfold lget at h
  split at h
  · next w e => cases h; exact e
  · cases h
theorem lst1_len : ∀ (k : Nat) (L : Lo) (v : Value), (lst1 k L v).length = L.length := by
  intro k
  induction k with
  | zero => intro L v; cases L <;> rfl
  | succ k ih =>
    intro L v
    cases L with
    | nil => rfl
    | cons x L => show (lst1 k L v).length + 1 = L.length + 1; rw [ih]
theorem lst2_len : ∀ (k : Nat) (L : Lo) (v : Value), (lst2 k L v).length = L.length := by
  intro k
  induction k with
  | zero =>
    intro L v
    match L with
    | [] => rfl
    | [x] => rfl
    | x :: y :: L => rfl
  | succ k ih =>
    intro L v
    match L with
    | [] => rfl
    | [x] => rfl
    | x :: y :: L => show (lst2 k (y :: L) v).length + 1 = L.length + 1 + 1; rw [ih]; rfl
theorem ck_some {x : Option Value} {w : Value} (h : ck x = some w) : x = some w ∧ w.category ≠ 2 := by
  cases x with
  | none => cases h
  | some u => cases u <;> first | (cases h; done) | (cases h; exact ⟨rfl, by simp [Value.category]⟩)
theorem lst1_get : ∀ (k : Nat) (L : Lo) (v : Value) (j : Nat) (w : Value), (lst1 k L v)[j]? = some (some w) → (j = k ∧ w = v) ∨ (j ≠ k ∧ L[j]? = some (some w) ∧ ¬ (j + 1 = k ∧ w.category = 2)) := by
  intro k
  induction k with
  | zero =>
    intro L v j w h
    cases L with
    | nil => simp [lst1] at h
    | cons x L =>
      cases j with
      | zero => simp [lst1] at h; exact Or.inl ⟨rfl, h.symm⟩
      | succ j => exact Or.inr ⟨by omega, by simpa [lst1] using h, by omega⟩
  | succ k ih =>
    intro L v j w h
    cases L with
    | nil => simp [lst1] at h
    | cons x L =>
      cases j with
      | zero =>
        cases k with
        | zero =>
          have h : ck x = some w := by simpa [lst1] using h
          obtain ⟨h1, h2⟩ := ck_some h
          exact Or.inr ⟨by omega, by simp [h1], fun q => h2 q.2⟩
        | succ k => exact Or.inr ⟨by omega, by simpa [lst1] using h, by omega⟩
      | succ j =>
        have h : (lst1 k L v)[j]? = some (some w) := by simpa [lst1] using h
        rcases ih L v j w h with ⟨h1, h2⟩ | ⟨h1, h2, h3⟩
        · exact Or.inl ⟨by omega, h2⟩
        · exact Or.inr ⟨by omega, by simpa using h2, fun q => h3 ⟨by omega, q.2⟩⟩
theorem lst2_get : ∀ (k : Nat) (L : Lo) (v : Value) (j : Nat) (w : Value), (lst2 k L v)[j]? = some (some w) → (j = k ∧ w = v) ∨ (j ≠ k ∧ j ≠ k + 1 ∧ L[j]? = some (some w) ∧ ¬ (j + 1 = k ∧ w.category = 2)) := by
  intro k
  induction k with
  | zero =>
    intro L v j w h
    match L with
    | [] => simp [lst2] at h
    | [x] =>
      cases j with
      | zero => simp [lst2] at h
      | succ j => simp [lst2] at h
    | x :: y :: L =>
      match j with
      | 0 => simp [lst2] at h; exact Or.inl ⟨rfl, h.symm⟩
      | 1 => simp [lst2] at h
      | j + 2 => exact Or.inr ⟨by omega, by omega, by simpa [lst2] using h, by omega⟩
  | succ k ih =>
    intro L v j w h
    match L with
    | [] => simp [lst2] at h
    | [x] =>
      cases j with
      | zero => simp [lst2] at h
      | succ j => simp [lst2] at h
    | x :: y :: L =>
      cases j with
      | zero =>
        cases k with
        | zero =>
          have h : ck x = some w := by simpa [lst2] using h
          obtain ⟨h1, h2⟩ := ck_some h
          exact Or.inr ⟨by omega, by omega, by simp [h1], fun q => h2 q.2⟩
        | succ k => exact Or.inr ⟨by omega, by omega, by simpa [lst2] using h, by omega⟩
      | succ j =>
        have h : (lst2 k (y :: L) v)[j]? = some (some w) := by simpa [lst2] using h
        rcases ih (y :: L) v j w h with ⟨h1, h2⟩ | ⟨h1, h2, h3, h4⟩
        · exact Or.inl ⟨by omega, h2⟩
        · exact Or.inr ⟨by omega, by omega, by simpa using h3, fun q => h4 ⟨by omega, q.2⟩⟩
def lvl (ρ : Nat → Nat) (L : Lo) : List (Nat × Value) := (List.range L.length).filterMap fun j => match L[j]? with
  | some (some v) => some (j, rv ρ v)
  | _ => none
theorem lvl_mem {ρ : Nat → Nat} {L : Lo} {j : Nat} {v : Value} (h : L[j]? = some (some v)) : (j, rv ρ v) ∈ lvl ρ L := by
  refine List.mem_filterMap.mpr ⟨j, List.mem_range.mpr (List.getElem?_eq_some_iff.mp h).1, ?_⟩
  rw [h]
theorem lvl_of {ρ : Nat → Nat} {L : Lo} {q : Nat × Value} (h : q ∈ lvl ρ L) : ∃ v, L[q.1]? = some (some v) ∧ q.2 = rv ρ v := by
  obtain ⟨j, -, h2⟩ := List.mem_filterMap.mp h
  split at h2
  · next v e => cases h2; exact ⟨v, e, rfl⟩
  · cases h2
theorem LV.has {ρ : Nat → Nat} {n : Nat} {L : Lo} {ls : Array Slot} {nL : Nat} (h : LV ρ n L ls nL) : lv_has ls nL (lvl ρ L) := by
  refine ⟨h.2.1, h.2.2.1, fun q hq => ?_⟩
  obtain ⟨v, h1, h2⟩ := lvl_of hq
  rw [h2]
  exact (h.2.2.2 _ _ h1).2
theorem cat_rv (ρ : Nat → Nat) (v : Value) : (rv ρ v).category = v.category := by cases v <;> rfl
theorem LV.put1 {ρ : Nat → Nat} {n : Nat} {L : Lo} {ls ls' : Array Slot} {nL k : Nat} {v : Value} (h : LV ρ n L ls nL) (hv : okV n v) (h' : lv_has ls' nL ((k, rv ρ v) :: (lvl ρ L).filter (fun q => !(q.1 == k) && !(q.1 + 1 == k && q.2.category == 2)))) : LV ρ n (lst1 k L v) ls' nL := by
  refine ⟨by rw [lst1_len]; exact h.1, h'.1, h'.2.1, fun j w hw => ?_⟩
  rcases lst1_get k L v j w hw with ⟨rfl, rfl⟩ | ⟨h1, h2, h3⟩
  · exact ⟨hv, h'.2.2 (j, rv ρ w) List.mem_cons_self⟩
  · refine ⟨(h.2.2.2 j w h2).1, h'.2.2 (j, rv ρ w) (List.mem_cons_of_mem _ (List.mem_filter.mpr ⟨lvl_mem h2, ?_⟩))⟩
    simp only [Bool.and_eq_true, Bool.not_eq_true', beq_eq_false_iff_ne, ne_eq, Bool.and_eq_false_iff, cat_rv]
    refine ⟨h1, ?_⟩
    by_cases q : j + 1 = k
    · exact Or.inr (fun z => h3 ⟨q, z⟩)
    · exact Or.inl q
theorem LV.put2 {ρ : Nat → Nat} {n : Nat} {L : Lo} {ls ls' : Array Slot} {nL k : Nat} {v : Value} (h : LV ρ n L ls nL) (hv : okV n v) (h' : lv_has ls' nL ((k, rv ρ v) :: (lvl ρ L).filter (fun q => !(q.1 == k) && (!(q.1 == k + 1) && !(q.1 + 1 == k && q.2.category == 2))))) : LV ρ n (lst2 k L v) ls' nL := by
  refine ⟨by rw [lst2_len]; exact h.1, h'.1, h'.2.1, fun j w hw => ?_⟩
  rcases lst2_get k L v j w hw with ⟨rfl, rfl⟩ | ⟨h1, h2, h3, h4⟩
  · exact ⟨hv, h'.2.2 (j, rv ρ w) List.mem_cons_self⟩
  · refine ⟨(h.2.2.2 j w h3).1, h'.2.2 (j, rv ρ w) (List.mem_cons_of_mem _ (List.mem_filter.mpr ⟨lvl_mem h3, ?_⟩))⟩
    simp only [Bool.and_eq_true, Bool.not_eq_true', beq_eq_false_iff_ne, ne_eq, Bool.and_eq_false_iff, cat_rv]
    refine ⟨h1, h2, ?_⟩
    by_cases q : j + 1 = k
    · exact Or.inr (fun z => h4 ⟨q, z⟩)
    · exact Or.inl q
theorem LV.inc {ρ : Nat → Nat} {n : Nat} {L : Lo} {ls ls' : Array Slot} {nL k : Nat} {x v : Int32} (h : LV ρ n L ls nL) (hx : L[k]? = some (some (.int x))) (h' : lv_has ls' nL ((k, Value.int v) :: (lvl ρ L).filter (fun q => !(q.1 == k) && !(q.1 + 1 == k && q.2.category == 2)))) : LV ρ n (L.set k (some (.int v))) ls' nL := by
  refine ⟨by rw [List.length_set]; exact h.1, h'.1, h'.2.1, fun j w hw => ?_⟩
  by_cases hj : j = k
  · subst hj
    have hlt := (List.getElem?_eq_some_iff.mp hx).1
    rw [List.getElem?_set_self hlt] at hw
    cases hw
    exact ⟨trivial, h'.2.2 (j, Value.int v) List.mem_cons_self⟩
  · rw [List.getElem?_set_ne (fun q => hj q.symm)] at hw
    refine ⟨(h.2.2.2 j w hw).1, h'.2.2 (j, rv ρ w) (List.mem_cons_of_mem _ (List.mem_filter.mpr ⟨lvl_mem hw, ?_⟩))⟩
    simp only [Bool.and_eq_true, Bool.not_eq_true', beq_eq_false_iff_ne, ne_eq, Bool.and_eq_false_iff, cat_rv]
    refine ⟨hj, ?_⟩
    by_cases q : j + 1 = k
    · refine Or.inr fun z => ?_
      have h1 := h.2.2.1.1 j (rv ρ w) (h.2.2.2 j w hw).2 (by rw [cat_rv]; exact z)
      have h2 := (h.2.2.2 k _ hx).2
      rw [q, h2] at h1
      cases h1
    · exact Or.inl q
theorem LV.ext {ρ σ : Nat → Nat} {n k : Nat} {L : Lo} {ls : Array Slot} {nL : Nat} (h : LV ρ n L ls nL) (hn : n ≤ k) (hs : ∀ j, j < n → σ j = ρ j) : LV σ k L ls nL :=
  ⟨h.1, h.2.1, h.2.2.1, fun j w hw => ⟨okV_le hn (h.2.2.2 j w hw).1, by rw [rv_ext hs (h.2.2.2 j w hw).1]; exact (h.2.2.2 j w hw).2⟩⟩
theorem map_ext {ρ σ : Nat → Nat} {n : Nat} {S : List Value} (hs : ∀ j, j < n → σ j = ρ j) (h : ∀ v ∈ S, okV n v) : S.map (rv σ) = S.map (rv ρ) := List.map_congr_left fun v hv => rv_ext hs (h v hv)
theorem csum_map (ρ : Nat → Nat) (S : List Value) : ((S.map (rv ρ)).map fun v => v.category).sum = csum S := by
  unfold csum
  rw [List.map_map]
  congr 1
  exact List.map_congr_left fun v _ => cat_rv ρ v
/-- where the method y stands -/
def MX (p : Program) (l : Launch) (R : Room) (s : State) (m : MethodId) (meth : Method) (c : Code) (y : Nat) : Prop :=
  p.tables.exec = Jvm.exec ∧ c.code = mCc y ∧ meth.sig.returnType = mRet y ∧ meth.locks = false ∧ c.maxLocals = mMax y ∧ s.vm.findClass (ownN (mOwn y)) = some m.cls ∧ (y = 152 ∨ c.exceptionTable.toList = tableOf (mHh y)) ∧ l.stackTraces = false ∧ (isInit y = true → meth.name = "<init>") ∧ mF y ≤ R.frames ∧ mL y ≤ R.locals ∧ y < 153
def Rl (s : State) (g : GG) (base y : Nat) (ρ0 : Nat → Nat) (n0 c0 s0 : Nat) (L : Lo) (S : List Value) (h : Hp) (H : Heap) (locs : List Loc) (cells slots : Nat) (ls : Array Slot) (ρ : Nat → Nat) : Prop :=
  va_S (fun q => base ≤ q) s.heap H locs ∧ Pic base g ρ h H ∧ (∀ k, k < n0 → ρ k = ρ0 k) ∧ n0 ≤ h.1 ∧ LV ρ h.1 L ls (mMax y) ∧ (∀ v ∈ S, okV h.1 v) ∧ cells + c0 = h.2.1 ∧ slots + s0 = h.2.2.1
def WW (p : Program) (l : Launch) (e : Env) (R : Room) (s : State) (m : MethodId) (args : Array Value) (below : List Frame) (meth : Method) (c : Code) (Q : State → Prop) (g : GG) (base y : Nat) (ρ0 : Nat → Nat) (n0 c0 s0 pc : Nat) (L : Lo) (S : List Value) (h : Hp) : Prop :=
  ∀ H locs cells slots ls ρ, Rl s g base y ρ0 n0 c0 s0 L S h H locs cells slots ls ρ → W p l e R s m args below meth c H locs cells slots Q (F0 m pc ls (S.map (rv ρ)))
