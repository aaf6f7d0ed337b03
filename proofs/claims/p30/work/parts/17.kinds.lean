/-! one equation a kind of instruction: what a run does from there -/
theorem Rg {m pc : Nat} {L : Lo} {S : List Value} {h : Hp} {pc' : Nat} {L' : Lo} {S' : List Value} {h' : Hp} (hs : stp m pc L S h = some (.inl (pc', L', S', h'))) : Run m pc L S h = Run m pc' L' S' h' := by rw [Run_eq, hs]; rfl
theorem Rd {m pc : Nat} {L : Lo} {S : List Value} {h : Hp} {o : Ot} (hs : stp m pc L S h = some (.inr (.inl o))) : Run m pc L S h = some o := by rw [Run_eq, hs]; rfl
theorem Rc {m pc : Nat} {L : Lo} {S : List Value} {h : Hp} {c pc' : Nat} {As : List Value} {L' : Lo} {S' : List Value} {h' : Hp} (hs : stp m pc L S h = some (.inr (.inr (c, As, pc', L', S', h')))) : Run m pc L S h = (Run c 0 (entL c As) [] h').bind fun o => aft m pc pc' L' S' o := by rw [Run_eq, hs]; rfl
theorem Rb {α : Type} {m pc : Nat} {L : Lo} {S : List Value} {h : Hp} {x : Option α} {f : α → Option Ac} {k : α → Option Ot} (hs : stp m pc L S h = x.bind f) (hk : ∀ v, (f v).bind (act m pc) = k v) : Run m pc L S h = x.bind k := by
  rw [Run_eq, hs]
  cases x with
  | none => rfl
  | some v => exact hk v
theorem Ri {m pc : Nat} {L : Lo} {S : List Value} {h : Hp} {c : Prop} [Decidable c] {a b : Option Ac} {x y : Option Ot} (hs : stp m pc L S h = if c then a else b) (ha : a.bind (act m pc) = x) (hb : b.bind (act m pc) = y) : Run m pc L S h = if c then x else y := by
  rw [Run_eq, hs]
  split
  · exact ha
  · exact hb
theorem Rbr {m pc : Nat} {L : Lo} {S : List Value} {h : Hp} {c d : Prop} [Decidable c] [Decidable d] {off : Int} {t : Nat} {L' : Lo} {S' : List Value} (hs : stp m pc L S h = br c pc off L' S' h) (ht : tg pc off = some t) (hcd : c ↔ d) : Run m pc L S h = if d then Run m t L' S' h else Run m (pc + 3) L' S' h := by
  rw [Run_eq, hs]
  unfold br
  rw [ht]
  simp only [Option.bind_some]
  by_cases hc : c
  · rw [if_pos hc, if_pos (hcd.mp hc)]; rfl
  · rw [if_neg hc, if_neg (fun q => hc (hcd.mpr q))]; rfl
theorem RbrN {m pc : Nat} {L : Lo} {S : List Value} {h : Hp} {c d : Prop} [Decidable c] [Decidable d] {off : Int} {t : Nat} {L' : Lo} {S' : List Value} (hs : stp m pc L S h = br c pc off L' S' h) (ht : tg pc off = some t) (hcd : c ↔ ¬ d) : Run m pc L S h = if d then Run m (pc + 3) L' S' h else Run m t L' S' h := by
  rw [Run_eq, hs]
  unfold br
  rw [ht]
  simp only [Option.bind_some]
  by_cases hd : d
  · rw [if_pos hd, if_neg (fun q => hcd.mp q hd)]; rfl
  · rw [if_neg hd, if_pos (hcd.mpr hd)]; rfl
theorem cnd_eq {x y : Int32} : cnd .eq x y = true ↔ x = y := by simp [cnd]
theorem cnd_ne {x y : Int32} : cnd .ne x y = true ↔ ¬ x = y := by simp [cnd]
theorem cnd_lt {x y : Int32} : cnd .lt x y = true ↔ x < y := by simp [cnd]
theorem cnd_ge {x y : Int32} : cnd .ge x y = true ↔ y ≤ x := by simp [cnd]
theorem cnd_gt {x y : Int32} : cnd .gt x y = true ↔ y < x := by simp [cnd]
theorem cnd_le {x y : Int32} : cnd .le x y = true ↔ x ≤ y := by simp [cnd]
theorem Rcv {m pc c : Nat} {L : Lo} {S : List Value} {h : Hp} {b pc' : Nat} {As : List Value} {S' : List Value} {x : Option Ac} (ci : Nat) (hs : stp m pc L S h = if isO h b ci = true then some (.inr (.inr (c, .ref b :: As, pc', L, S', h))) else x) (hO : isO h b ci = true) : Run m pc L S h = (Run c 0 (entL c (.ref b :: As)) [] h).bind fun o => aft m pc pc' L S' o := Rc (by rw [hs, if_pos hO])
theorem aft_v (m pc pc' : Nat) (L : Lo) (S : List Value) (v : Value) (h : Hp) : aft m pc pc' L S (.inl (some v), h) = Run m pc' L (v :: S) h := rfl
theorem aft_n (m pc pc' : Nat) (L : Lo) (S : List Value) (h : Hp) : aft m pc pc' L S (.inl none, h) = Run m pc' L S h := rfl
theorem aft_x {m pc pc' : Nat} {L : Lo} {S : List Value} {E : String} {h : Hp} (hm : mHh m = []) : aft m pc pc' L S (.inr E, h) = some (.inr E, h) := by
  unfold aft
  rw [hm]; rfl
