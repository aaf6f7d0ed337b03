section SOUND2
variable {p : Program} {l : Launch} {e : Env} {R : Room} {s : State} {m : MethodId} {args : Array Value} {below : List Frame} {meth : Method} {c : Code} {Q : State → Prop} {g : GG} {base y : Nat} {ρ0 : Nat → Nat} {n0 c0 s0 pc : Nat} {L : Lo} {S : List Value} {h : Hp} {o : Ot}
def isEndI : Instr → Bool
  | .ireturn => true
  | .lreturn => true
  | .dreturn => true
  | .return_ => true
  | .new _ => true
  | _ => false
def Ng (x : Option Ac) : Prop := ∀ o, x ≠ some (.inr (.inl o))
theorem ng_none : Ng none := fun _ q => by cases q
theorem ng_go {h1 : Hp} {pc : Nat} {L : Lo} {S : List Value} : Ng (go pc L S h1) := fun _ e => by cases e
theorem ng_bind {α : Type} {o : Option α} {f : α → Option Ac} (q : ∀ v, o = some v → Ng (f v)) : Ng (o.bind f) := by
  cases o with
  | none => exact ng_none
  | some v => exact q v rfl
theorem ng_call {m pc kind c : Nat} {L : Lo} {S : List Value} {h : Hp} : Ng (call m pc kind c L S h) := fun o q => by
  obtain ⟨w, hw⟩ := call_at q
  cases hw
set_option maxHeartbeats 4000000 in
theorem ins_ng {m pc n : Nat} {i : Instr} {L : Lo} {S : List Value} {h : Hp} (hi : isEndI i = false) : Ng (ins m pc n i L S h) := by
  cases i <;> first
    | (cases hi; done)
    | (unfold ins; (try unfold br); (try unfold swi); dsimp only
       repeat' first
        | exact ng_none
        | exact ng_go
        | exact ng_call
        | (refine ng_bind fun v hv => ?_)
        | split)
theorem thrL_mem : ∀ {l : List (Nat × Nat × String × Nat × Nat × Nat × Bool × String)} {m pc : Nat} {r : String × Nat × Nat × Nat × Bool × String}, thrL l m pc = some r → (m, pc, r) ∈ l := by
  intro l
  induction l with
  | nil => intro m pc r h; cases h
  | cons e l ih =>
    intro m pc r h
    unfold thrL at h
    split at h
    · next q =>
      cases h
      obtain ⟨a, b, c⟩ := e
      obtain ⟨q1, q2⟩ := q
      subst q1; subst q2
      exact List.mem_cons_self
    · exact List.mem_cons_of_mem _ (ih h)
theorem ends (M : MX p l R s m meth c y) (C : CT base g s s.heap) (hs : stp y pc L S h = some (.inr (.inl o))) (hRc : o.2.2.1 ≤ R.cells + c0) (hRs : o.2.2.2.1 ≤ R.slots + s0) : WW p l e R s m args below meth c (MQx below g base ρ0 n0 o args s R.cells R.slots) g base y ρ0 n0 c0 s0 pc L S h := by
  unfold stp at hs
  obtain ⟨⟨i, n⟩, hk, hs⟩ := bind_at hs
  have hy : y < 153 := M.2.2.2.2.2.2.2.2.2.2.2
  have hd := lk_ok (dc_ok y hy) hk
  have hn := lk_len hy hk
  have hret := M.2.2.1
  cases hi : isEndI i with
  | false => exact absurd hs (ins_ng hi o)
  | true =>
    intro H locs cells slots ls ρ r
    have r7 : cells + c0 = h.2.1 := r.2.2.2.2.2.2.1
    have r8 : slots + s0 = h.2.2.1 := r.2.2.2.2.2.2.2
    cases i <;> first | (cases hi; done) | skip
    case ireturn =>
      have hn : n = 1 := by simpa [lenOk] using hn
      subst hn
      unfold ins at hs
      dsimp only at hs
      split at hs
      · obtain ⟨ty, h1, hs⟩ := bind_at hs
        split at hs
        · next q =>
          cases hs
          refine W.widen (k := R.cells) (n := R.slots) (by dsimp only at hRc; omega) (by dsimp only at hRs; omega) (vx_ret ?_)
          exact W.zret M.1 M.2.1 (hret.trans h1) q (fun t ht _ => rl_end (v := some (.int _)) r (fun w hw => by cases hw; trivial) rfl t ht) r.1.2.2 hd M.2.2.2.1
        · cases hs
      · cases hs
    case lreturn =>
      have hn : n = 1 := by simpa [lenOk] using hn
      subst hn
      unfold ins at hs
      dsimp only at hs
      split at hs
      · split at hs
        · next q =>
          cases hs
          refine W.widen (k := R.cells) (n := R.slots) (by dsimp only at hRc; omega) (by dsimp only at hRs; omega) (vx_ret ?_)
          exact W.lret M.1 M.2.1 (hret.trans q) (fun t ht _ => rl_end (v := some (.long _)) r (fun w hw => by cases hw; trivial) rfl t ht) r.1.2.2 hd M.2.2.2.1
        · cases hs
      · cases hs
    case dreturn =>
      have hn : n = 1 := by simpa [lenOk] using hn
      subst hn
      unfold ins at hs
      dsimp only at hs
      split at hs
      · split at hs
        · next q =>
          cases hs
          refine W.widen (k := R.cells) (n := R.slots) (by dsimp only at hRc; omega) (by dsimp only at hRs; omega) (vx_ret ?_)
          exact W.dret M.1 M.2.1 (hret.trans q) (fun t ht _ => rl_end (v := some (.double _)) r (fun w hw => by cases hw; trivial) rfl t ht) r.1.2.2 hd M.2.2.2.1
        · cases hs
      · cases hs
    case return_ =>
      have hn : n = 1 := by simpa [lenOk] using hn
      subst hn
      unfold ins at hs
      dsimp only at hs
      split at hs
      · split at hs
        · next q =>
          cases hs
          refine W.widen (k := R.cells) (n := R.slots) (by dsimp only at hRc; omega) (by dsimp only at hRs; omega) (vx_ret ?_)
          exact W.vret M.1 M.2.1 (hret.trans q) (fun t ht _ => rl_end (v := none) r (fun w hw => by cases hw) rfl t ht) r.1.2.2 hd M.2.2.2.1
        · cases hs
      · cases hs
    case new k =>
      unfold ins at hs
      dsimp only at hs
      split at hs
      · cases hs
      · split at hs
        · next r0 hr0 =>
          split at hs
          · next q =>
            cases hs
            have hm := thrL_mem hr0
            obtain ⟨E, ik, is, ic, wide, tx⟩ := r0
            obtain ⟨t1, t2, t3, t4, t5, t6, t7, t8, t9, t10⟩ := thr_ok _ hm
            obtain ⟨sa, hsa⟩ := C.2.2.2.2.2.2.2.1 _ hm
            have hown : s.vm.findClass RX8 = some m.cls := by rw [← t1]; exact M.2.2.2.2.2.1
            have hdc : ∀ {pc' : Nat} {x : Instr × Nat}, lk (cdOf y) pc' = some x → decode (mCc y) pc' = .ok x := fun hx => lk_ok (dc_ok y hy) hx
            have htab : c.exceptionTable.toList = [] := by
              rcases M.2.2.2.2.2.2.1 with q9 | q9
              · subst q9; exact absurd t1 (by decide +kernel)
              · rw [q9, t10]; rfl
            have hF := M.2.2.2.2.2.2.2.2.2.1
            have hL := M.2.2.2.2.2.2.2.2.2.2.1
            have hx : ∀ t : State, s.vm.Alike t.vm → H.size ≤ t.heap.size → (∀ q : Nat, q < H.size → t.heap[q]? = H[q]?) → XC g base ρ0 n0 (.inr E, hbump h) E s t := fun t _ hz hq => ⟨rfl, ρ, r.2.2.1, r.2.2.2.1, (r.2.1.kept hq).bump, Nat.le_trans r.1.1 hz, fun q h1 h2 => by rw [hq q (Nat.lt_of_lt_of_le h1 r.1.1)]; exact r.1.2.1 q h1 h2⟩
            have hc1 : h.2.1 + 1 ≤ R.cells + c0 := hRc
            have hs1 : h.2.2.1 + 6 ≤ R.slots + s0 := hRs
            have hRl : ((S.map (rv ρ)).map fun v => v.category).sum + (13 * (exN.length + 1) + 43) ≤ R.locals := by
              rw [csum_map, q.1]
              show 0 + (13 * (2 + 1) + 43) ≤ _
              omega
            have hRf : exN.length + 3 < R.frames := by show 2 + 3 < _; omega
            have hat : ∀ w ∈ vx_atS RX8 ic E exN, w.before args s = true := fun w hw => C.wordW (t6 w hw).1 (exw_warm _ hm w hw) args
            have hgood : ∀ w ∈ Cond.classLink RX8 ik E :: Cond.initialized E :: vx_atS RX8 ic E exN, vx_ot w = true := by
              intro w hw
              rcases List.mem_cons.mp hw with rfl | hw
              · rfl
              · rcases List.mem_cons.mp hw with rfl | hw
                · rfl
                · exact (t6 w hw).2
            cases wide with
            | false =>
              exact vx_throwS M.1 M.2.1 M.2.2.2.2.2.2.2.1 hown t2 exN_ok (C.word t3 args) (C.word t4 args) hsa hat hgood C.2.2.2.2.2.1 C.2.2.2.2.2.2.1 r.1 (by rw [r.2.2.2.2.1.2.1, M.2.2.2.2.1]) (hdc t7) (hdc t8) (hdc t9.1) (hdc t9.2.1) (hdc t9.2.2) (fun x hx => by rw [htab] at hx; cases hx) hRf hRl (by omega) (by omega) M.2.2.2.1 hx r.1.2.2 (by omega) (by omega)
            | true =>
              exact vx_throwSW M.1 M.2.1 M.2.2.2.2.2.2.2.1 hown t2 exN_ok (C.word t3 args) (C.word t4 args) hsa hat hgood C.2.2.2.2.2.1 C.2.2.2.2.2.2.1 r.1 (by rw [r.2.2.2.2.1.2.1, M.2.2.2.2.1]) (hdc t7) (hdc t8) (hdc t9.1) (hdc t9.2.1) (hdc t9.2.2) (fun x hx => by rw [htab] at hx; cases hx) hRf hRl (by omega) (by omega) M.2.2.2.1 hx r.1.2.2 (by omega) (by omega)
          · cases hs
        · cases hs
theorem hh_all : (List.range 153).all (fun m => (mHh m).all fun e => (e.2.2.2 == 15 || e.2.2.2 == 21 || e.2.2.2 == 23) && mOwn m == 9) = true := by decide +kernel
theorem hh_at {m : Nat} (hm : m < 153) {e : Nat × Nat × Nat × Nat} (he : e ∈ mHh m) : (e.2.2.2 = 15 ∨ e.2.2.2 = 21 ∨ e.2.2.2 = 23) ∧ mOwn m = 9 := by
  have h := List.all_eq_true.mp (List.all_eq_true.mp hh_all m (List.mem_range.mpr hm)) e he
  simpa [or_assoc] using h
theorem cat_link (k : Nat) (h : k = 15 ∨ k = 21 ∨ k = 23) : Cond.classLink (ownN 9) k (catN k) ∈ Wg ∧ Cond.castable (catN k) (catN k) ∈ lw_tbl := by
  rcases h with rfl | rfl | rfl
  · exact ⟨wgm 447 (by decide +kernel) (by decide +kernel), List.mem_append_right _ (List.mem_of_getElem? (i := 454) (by decide +kernel))⟩
  · exact ⟨wgm 524 (by decide +kernel) (by decide +kernel), List.mem_append_right _ (List.mem_of_getElem? (i := 537) (by decide +kernel))⟩
  · exact ⟨wgm 525 (by decide +kernel) (by decide +kernel), List.mem_append_right _ (List.mem_of_getElem? (i := 554) (by decide +kernel))⟩
theorem thr_cat : thrT.all (fun e => e.2.2.1 == catN 15 || e.2.2.1 == catN 21 || e.2.2.1 == catN 23) = true := by decide +kernel
theorem stp_exc {m pc : Nat} {L : Lo} {S : List Value} {h h1 : Hp} {E : String} (hs : stp m pc L S h = some (.inr (.inl (.inr E, h1)))) : ∃ i, E = catN i ∧ (i = 15 ∨ i = 21 ∨ i = 23) := by
  unfold stp at hs
  obtain ⟨⟨i, n⟩, hk, hs⟩ := bind_at hs
  cases hi : isEndI i with
  | false => exact absurd hs (ins_ng hi _)
  | true =>
    cases i <;> first | (cases hi; done) | skip
    case new k =>
      unfold ins at hs
      dsimp only at hs
      split at hs
      · cases hs
      · split at hs
        · next r0 hr0 =>
          split at hs
          · cases hs
            have h9 := List.all_eq_true.mp thr_cat _ (thrL_mem hr0)
            simp only [Bool.or_eq_true, beq_iff_eq] at h9
            rcases h9 with (h9 | h9) | h9
            · exact ⟨15, h9, Or.inl rfl⟩
            · exact ⟨21, h9, Or.inr (Or.inl rfl)⟩
            · exact ⟨23, h9, Or.inr (Or.inr rfl)⟩
          · cases hs
        · cases hs
    all_goals (unfold ins at hs; dsimp only at hs; split at hs <;> first | (cases hs; done) | (split at hs <;> first | (cases hs; done)) | (obtain ⟨ty, q1, hs⟩ := bind_at hs; split at hs <;> cases hs))
theorem run_exc : ∀ (n : Nat) {m pc : Nat} {L : Lo} {S : List Value} {h h1 : Hp} {E : String}, run n m pc L S h = some (.inr E, h1) → ∃ i, E = catN i ∧ (i = 15 ∨ i = 21 ∨ i = 23) := by
  intro n
  induction n with
  | zero => intro m pc L S h h1 E hr; cases hr
  | succ n ih =>
    intro m pc L S h hf E hr
    unfold run at hr
    cases hs : stp m pc L S h with
    | none => rw [hs] at hr; cases hr
    | some a =>
      rw [hs] at hr
      simp only [Option.bind_some] at hr
      rcases a with ⟨pc', L', S', h'⟩ | o1 | ⟨c, As, pc', L', S', h'⟩
      · exact ih hr
      · cases hr; exact stp_exc hs
      · simp only at hr
        cases h1 : run n c 0 (entL c As) [] h' with
        | none => rw [h1] at hr; cases hr
        | some o1 =>
          rw [h1] at hr
          simp only [Option.bind_some] at hr
          rcases o1 with ⟨v | E1, h2⟩
          · exact ih hr
          · simp only at hr
            cases h3 : hnd (mHh m) pc E1 with
            | none => rw [h3] at hr; cases hr; exact ih h1
            | some hp =>
              rw [h3] at hr
              simp only at hr
              cases h4 : afterH m hp L' with
              | none => rw [h4] at hr; cases hr
              | some q =>
                rw [h4] at hr
                exact ih hr
theorem catN_ne {i j : Nat} (hi : i = 15 ∨ i = 21 ∨ i = 23) (hj : j = 15 ∨ j = 21 ∨ j = 23) (h : catN i ≠ catN j) : i ≠ j := fun q => h (by rw [q])
/-- no row of the table takes it -/
theorem hnd_none : ∀ {l : List (Nat × Nat × Nat × Nat)} {pc : Nat} {E : String}, hnd l pc E = none → ∀ z ∈ tableOf l, covers z pc = false ∨ catN z.catchType ≠ E := by
  intro l
  induction l with
  | nil => intro pc E _ z hz; cases hz
  | cons e l ih =>
    intro pc E h z hz
    unfold hnd at h
    split at h
    · cases h
    · next q =>
      rcases List.mem_cons.mp hz with rfl | hz
      · by_cases q1 : e.1 ≤ pc ∧ pc < e.2.1
        · exact Or.inr fun q2 => q ⟨q1.1, q1.2, q2⟩
        · refine Or.inl ?_
          unfold covers
          simp only [Bool.and_eq_false_iff, decide_eq_false_iff_not]
          by_cases q2 : e.1 ≤ pc
          · exact Or.inr fun q3 => q1 ⟨q2, q3⟩
          · exact Or.inl q2
      · exact ih h z hz
theorem hnd_some : ∀ {l : List (Nat × Nat × Nat × Nat)} {pc hp : Nat} {E : String}, hnd l pc E = some hp → ∃ (pre : List ExceptionTableEntry) (x : ExceptionTableEntry) (suf : List ExceptionTableEntry), tableOf l = pre ++ x :: suf ∧ (∀ z ∈ pre, covers z pc = false ∨ catN z.catchType ≠ E) ∧ covers x pc = true ∧ catN x.catchType = E ∧ x.handlerPc = hp := by
  intro l
  induction l with
  | nil => intro pc hp E h; cases h
  | cons e l ih =>
    intro pc hp E h
    unfold hnd at h
    split at h
    · next q =>
      cases h
      refine ⟨[], ⟨e.1, e.2.1, e.2.2.1, e.2.2.2⟩, tableOf l, rfl, (fun z hz => nomatch hz), ?_, q.2.2, rfl⟩
      unfold covers
      simp only [Bool.and_eq_true, decide_eq_true_eq]
      exact ⟨q.1, q.2.1⟩
    · next q =>
      obtain ⟨pre, x, suf, h1, h2, h3, h4, h5⟩ := ih h
      refine ⟨⟨e.1, e.2.1, e.2.2.1, e.2.2.2⟩ :: pre, x, suf, by show _ :: tableOf l = _; rw [h1]; rfl, fun z hz => ?_, h3, h4, h5⟩
      rcases List.mem_cons.mp hz with rfl | hz
      · by_cases q1 : e.1 ≤ pc ∧ pc < e.2.1
        · exact Or.inr fun q2 => q ⟨q1.1, q1.2, q2⟩
        · refine Or.inl ?_
          unfold covers
          simp only [Bool.and_eq_false_iff, decide_eq_false_iff_not]
          by_cases q2 : e.1 ≤ pc
          · exact Or.inr fun q3 => q1 ⟨q2, q3⟩
          · exact Or.inl q2
      · exact h2 z hz
theorem table_mem {l : List (Nat × Nat × Nat × Nat)} {z : ExceptionTableEntry} (hz : z ∈ tableOf l) : ∃ e ∈ l, z.catchType = e.2.2.2 := by
  obtain ⟨e, he, rfl⟩ := List.mem_map.mp hz
  exact ⟨e, he, rfl⟩
theorem pass_of (M : MX p l R s m meth c y) (C : CT base g s s.heap) {E : String} {i : Nat} (hE : E = catN i) (hi : i = 15 ∨ i = 21 ∨ i = 23) {z : ExceptionTableEntry} (hz : z ∈ tableOf (mHh y)) (hp : covers z pc = false ∨ catN z.catchType ≠ E) : covers z pc = false ∨ (z.catchType ≠ 0 ∧ ∃ nm : String, (Cond.classLink (ownN (mOwn y)) z.catchType nm).before args s = true ∧ va_Nc E nm s) := by
  rcases hp with hp | hp
  · exact Or.inl hp
  · obtain ⟨e, he, hc⟩ := table_mem hz
    obtain ⟨h1, h2⟩ := hh_at M.2.2.2.2.2.2.2.2.2.2.2 he
    rw [← hc] at h1
    refine Or.inr ⟨by omega, catN z.catchType, by rw [h2]; exact C.word (cat_link _ h1).1 args, ?_⟩
    rw [hE]
    refine C.2.2.2.2.2.2.2.2.2 i _ hi h1 (catN_ne hi h1 ?_)
    rw [← hE]; exact fun q => hp q.symm
/-- the callee's contract, out of the tie at shorter runs -/
theorem met_of {n k : Nat} {As : List Value} {ρ : Nat → Nat} (l : Launch) (hl : l.stackTraces = false) (IH : Snd n) (hk : k < 152) (hrun : run n k 0 (entL k As) [] h = some o) (hlen : (argL As).length ≤ mMax k) (hm : h.2.1 ≤ o.2.2.1 ∧ h.2.2.1 ≤ o.2.2.2.1) :
    vx_Met l (mY k) (mW k :: Wg) ({ frames := mF k, cells := o.2.2.1 - h.2.1, slots := o.2.2.2.1 - h.2.2.1, locals := mL k }) (PC g base ρ h As) (QC g base ρ h.1 o) (XC g base ρ h.1 o) (o.2.2.1 - h.2.1) (o.2.2.2.1 - h.2.2.1) (fun q => base ≤ q) := by
  refine ofF (mth_ok k (by omega) (by omega)) ?_
  intro p e s m args below meth c s₁ B hml ht hP
  obtain ⟨rfl, hC, hPic, hok⟩ := hP
  have hown : s.vm.findClass (ownN (mOwn k)) = some m.cls := by rw [← (mth_ok k (by omega) (by omega)).2.2.1]; exact findClass_of_methodNamed B.named
  have M : MX p l { frames := mF k, cells := o.2.2.1 - h.2.1, slots := o.2.2.2.1 - h.2.2.1, locals := mL k } s m meth c k := ⟨B.exec, B.bytes, B.returns, B.notSynchronized, hml, hown, Or.inr ht, hl, (fun q => (name_of_methodNamed B.named B.method).1.trans (of_decide_eq_true q)), Nat.le_refl _, Nat.le_refl _, by omega⟩
  rw [lg_entry_eq]
  have hLV := entL_LV (n := h.1) (ρ := ρ) hlen hok
  refine IH k 0 (entL k As) [] h o hrun p l e _ s m _ below meth c (vx_MQ below (QC g base ρ h.1 o) (XC g base ρ h.1 o) (As.map (rv ρ)).toArray s (o.2.2.1 - h.2.1) (o.2.2.2.1 - h.2.2.1) (fun q => base ≤ q)) g base ρ h.1 h.2.1 h.2.2.1 M hC (by show _ ≤ o.2.2.1 - h.2.1 + h.2.1; omega) (by show _ ≤ o.2.2.2.1 - h.2.2.1 + h.2.2.1; omega) ?_ ?_ s.heap [] 0 0 _ ρ ⟨va_S.rf, hPic, fun _ _ => rfl, Nat.le_refl _, hLV, fun v hv => (by cases hv), Nat.zero_add _, Nat.zero_add _⟩
  · intro pc L S h' hs
    exact ends M hC hs (by show _ ≤ o.2.2.1 - h.2.1 + h.2.1; omega) (by show _ ≤ o.2.2.2.1 - h.2.2.1 + h.2.2.1; omega)
  · intro E H locs cells slots pc ls st ρ' q ce ho hS hPic' h3 h4 hc hs hce hcv hcl hh hi
    obtain ⟨i, hE, hi⟩ := hi
    exact end_x M (by show cells ≤ o.2.2.1 - h.2.1; omega) (by show slots ≤ o.2.2.2.1 - h.2.2.1; omega) ho hS hPic' h3 h4 hce hcv hcl (fun z hz => by
      rw [ht] at hz
      exact pass_of M hC hE hi hz (hnd_none hh z hz))
end SOUND2
