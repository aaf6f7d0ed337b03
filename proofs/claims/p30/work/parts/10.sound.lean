section SOUND
/-- behind a method that returns, and behind one that throws -/
def QC (g : GG) (base : Nat) (ρ0 : Nat → Nat) (n0 : Nat) (o : Ot) : Array Value → State → Outcome → State → Prop := fun _ st oc t =>
  ∃ (v : Option Value) (ρ' : Nat → Nat), o.1 = .inl v ∧ oc = .returned (v.map (rv ρ')) ∧ (∀ k, k < n0 → ρ' k = ρ0 k) ∧ n0 ≤ o.2.1 ∧ Pic base g ρ' o.2 t.heap ∧ (∀ w, v = some w → okV o.2.1 w) ∧ va_F (fun q => base ≤ q) st t
def XC (g : GG) (base : Nat) (ρ0 : Nat → Nat) (n0 : Nat) (o : Ot) : String → State → State → Prop := fun E st t =>
  o.1 = .inr E ∧ ∃ (ρ' : Nat → Nat), (∀ k, k < n0 → ρ' k = ρ0 k) ∧ n0 ≤ o.2.1 ∧ Pic base g ρ' o.2 t.heap ∧ va_F (fun q => base ≤ q) st t
def PC (g : GG) (base : Nat) (ρ : Nat → Nat) (h : Hp) (As : List Value) : Array Value → State → Prop := fun v U => v = (As.map (rv ρ)).toArray ∧ CT base g U U.heap ∧ Pic base g ρ h U.heap ∧ ∀ w ∈ As, okV h.1 w
theorem PC_blind (g : GG) (base : Nat) (ρ : Nat → Nat) (h : Hp) (As : List Value) : FrameBlind (PC g base ρ h As) := fun a U gg mk ⟨h1, h2, h3, h4⟩ => ⟨h1, h2.calling gg mk a, h3, h4⟩
theorem ofF {l : Launch} {k : Nat} (hk : mthP k) {rm : Room} {Pc : Array Value → State → Prop} {Qc : Array Value → State → Outcome → State → Prop} {XC : String → State → State → Prop} {mc ms : Nat} {free : Addr → Prop}
    (body : ∀ p e s m args below meth c s₁, BodyLoose p l (mY k) (headSpec (mW k :: Wg) rm) (mCc k) (mMax k) (mRet k) e s m args below meth c s₁ → c.maxLocals = mMax k → c.exceptionTable.toList = tableOf (mHh k) → Pc args s →
      W p l e rm s m args below meth c s.heap [] 0 0 (vx_MQ below Qc XC args s mc ms free) (entryFrame m args (mMax k))) : vx_Met l (mY k) (mW k :: Wg) rm Pc Qc XC mc ms free := by
  refine MetFree.of_bodySF (code := mCc k) (maxLocals := mMax k) (ret := mRet k) hk.2.2.2.1 ?_ ?_
  · intro args s m h hn
    have h0 := atoms_spec (ws := mW k :: Wg) h (mW k) List.mem_cons_self
    unfold mW at h0
    split at h0
    · obtain ⟨meth, c, h1, h2, h3, h4, h5, h6, -, -⟩ := Cond.code_spec hn h0
      exact ⟨meth, c, h1, h2, h3, h4, h5, h6⟩
    · obtain ⟨m9, meth, c, hn9, h1, h2, h3, h4, -, h5, h6, -⟩ := Cond.codeWith_spec h0
      cases hn.symm.trans hn9
      exact ⟨meth, c, h1, h2, h3, h4, h5, h6⟩
  · intro p e s m args below meth c s₁ B hml hP _
    have hh0 : s₁.heap = s.heap := by rw [B.state]; rfl
    have ht : c.exceptionTable.toList = tableOf (mHh k) := by
      have h0 := atoms_spec (ws := mW k :: Wg) B.pre (mW k) List.mem_cons_self
      unfold mW at h0
      split at h0
      · next he =>
        obtain ⟨meth9, c9, h1, h2, -, -, -, -, h7, -⟩ := Cond.code_spec B.named h0
        cases Option.some.inj (h1.symm.trans B.method)
        cases Option.some.inj (h2.symm.trans (Stand.of_body B).code)
        rw [Array.isEmpty_iff.mp h7, List.isEmpty_iff.mp he]
        rfl
      · exact vx_table (x := mY k) B h0
    obtain ⟨t, a1, o, b1, b2, b3⟩ := body p e s m args below meth c s₁ B hml ht hP s₁ hh0 (Stand.of_body B)
    exact ⟨t, o, a1, b1, b2, b3⟩
theorem args_at (ρ : Nat → Nat) : ∀ (As : List Value) (i j : Nat) (v : Value), (argL As)[j]? = some (some v) → (i + j, rv ρ v) ∈ lv_args i (As.map (rv ρ)) ∧ v ∈ As := by
  intro As
  induction As with
  | nil => intro i j v h; simp [argL] at h
  | cons w As ih =>
    intro i j v h
    rw [List.map_cons]
    unfold argL at h
    unfold lv_args
    rw [cat_rv]
    split at h
    · next hc =>
      rw [if_pos hc]
      match j with
      | 0 => simp at h; subst h; exact ⟨List.mem_cons_self, List.mem_cons_self⟩
      | 1 => simp at h
      | j + 2 =>
        have h1 := ih (i + 2) j v (by simpa using h)
        refine ⟨List.mem_cons_of_mem _ ?_, List.mem_cons_of_mem _ h1.2⟩
        have e : i + (j + 2) = i + 2 + j := by omega
        rw [e]; exact h1.1
    · next hc =>
      rw [if_neg hc]
      match j with
      | 0 => simp at h; subst h; exact ⟨List.mem_cons_self, List.mem_cons_self⟩
      | j + 1 =>
        have h1 := ih (i + 1) j v (by simpa using h)
        refine ⟨List.mem_cons_of_mem _ ?_, List.mem_cons_of_mem _ h1.2⟩
        have e : i + (j + 1) = i + 1 + j := by omega
        rw [e]; exact h1.1
theorem argL_len (ρ : Nat → Nat) : ∀ (As : List Value), (lg_sl (As.map (rv ρ))).length = (argL As).length := by
  intro As
  induction As with
  | nil => rfl
  | cons w As ih =>
    rw [List.map_cons]
    have ih' : (List.flatMap (fun v : Value => if v.category = 2 then [Slot.val v, Slot.second] else [Slot.val v]) (List.map (rv ρ) As)).length = (argL As).length := ih
    show (List.flatMap (fun v : Value => if v.category = 2 then [Slot.val v, Slot.second] else [Slot.val v]) (rv ρ w :: List.map (rv ρ) As)).length = _
    rw [List.flatMap_cons, List.length_append, ih', cat_rv]
    show _ = (if w.category = 2 then some w :: none :: argL As else some w :: argL As).length
    split <;> (simp; try omega)
theorem entL_LV {ρ : Nat → Nat} {n k : Nat} {As : List Value} (hlen : (argL As).length ≤ mMax k) (hok : ∀ w ∈ As, okV n w) : LV ρ n (entL k As) ((lg_sl (As.map (rv ρ)) ++ List.replicate (mMax k - (lg_sl (As.map (rv ρ))).length) Slot.unset).toArray) (mMax k) := by
  have hl := lv_entry (As.map (rv ρ)) (n := mMax k) (by rw [argL_len]; exact hlen)
  refine ⟨?_, hl.1, hl.2.1, fun j v hj => ?_⟩
  · unfold entL; rw [List.length_append, List.length_replicate]; omega
  · unfold entL at hj
    have hj' : (argL As)[j]? = some (some v) := by
      rcases Nat.lt_or_ge j (argL As).length with q | q
      · rwa [List.getElem?_append_left q] at hj
      · rw [List.getElem?_append_right q, List.getElem?_replicate] at hj
        split at hj <;> cases hj
    obtain ⟨h1, h2⟩ := args_at ρ As 0 j v hj'
    rw [Nat.zero_add] at h1
    exact ⟨hok v h2, hl.2.2 _ h1⟩
/-- THE TIE at runs of n steps -/
def Snd (n : Nat) : Prop := ∀ (y pc : Nat) (L : Lo) (S : List Value) (h : Hp) (o : Ot), run n y pc L S h = some o →
  ∀ (p : Program) (l : Launch) (e : Env) (R : Room) (s : State) (m : MethodId) (args : Array Value) (below : List Frame) (meth : Method) (c : Code) (Q : State → Prop) (g : GG) (base : Nat) (ρ0 : Nat → Nat) (n0 c0 s0 : Nat),
  MX p l R s m meth c y → CT base g s s.heap → o.2.2.1 ≤ R.cells + c0 → o.2.2.2.1 ≤ R.slots + s0 →
  (∀ pc L S h, stp y pc L S h = some (.inr (.inl o)) → WW p l e R s m args below meth c Q g base y ρ0 n0 c0 s0 pc L S h) →
  (∀ E H locs cells slots pc ls st ρ q ce, o.1 = .inr E → va_S (fun q => base ≤ q) s.heap H locs → Pic base g ρ o.2 H → (∀ k, k < n0 → ρ k = ρ0 k) → n0 ≤ o.2.1 → cells + c0 = o.2.2.1 → slots + s0 = o.2.2.2.1 → H[q]? = some ce → ce.vm = .none → s.vm.findClass E = some ce.cls → hnd (mHh y) pc E = none → (∃ i, E = catN i ∧ (i = 15 ∨ i = 21 ∨ i = 23)) → vx_W p l e R s m args below meth c H locs cells slots Q (F0 m pc ls st) q) →
  WW p l e R s m args below meth c Q g base y ρ0 n0 c0 s0 pc L S h
theorem callG {p : Program} {l : Launch} {e : Env} {R : Room} {s : State} {m : MethodId} {args : Array Value} {below : List Frame} {meth : Method} {c : Code} {H : Heap} {locs : List Loc} {cells slots mc ms pc : Nat} {Q : State → Prop} {ls : Array Slot} {st0 rest : List Value} {Qa : State → Outcome → State → Prop} {XC : String → State → State → Prop} {free : Addr → Prop}
    (hr : vx_Run p l e R s m args below meth c H locs cells slots mc ms (F0 m pc ls st0) rest Qa XC free)
    (kx : ∀ (E : String) (ce : Cell) (q : Addr) (st t : State) (Ls : List Loc), st.heap = H → s.WarmedH t.vm → XC E st t → (∀ z ∈ Ls, free z.base) → t.heap[q]? = some ce → ce.vm = .none → s.vm.findClass E = some ce.cls → vx_W p l e R s m args below meth c t.heap (locs ++ Ls) (cells + mc) (slots + ms) Q (F0 m pc ls rest) q)
    (kk : ∀ (v : Option Value) (st t : State) (Ls : List Loc), st.heap = H → s.WarmedH t.vm → Qa st (.returned v) t → (∀ z ∈ Ls, free z.base) → W p l e R s m args below meth c t.heap (locs ++ Ls) (cells + mc) (slots + ms) Q (F0 m (pc + 3) ls (v.toList ++ rest))) : W p l e R s m args below meth c H locs cells slots Q (F0 m pc ls st0) := by
  intro T hT X
  rcases hr T hT X with ⟨v, st, t, T', Ls, h0, X', hL, e1, e2, hq, stp⟩ | ⟨q, st, t, T', Ls, E, ce, h0, X', hL, e1, e2, hq, hce, hcv, hcl, stp⟩
  · obtain ⟨t2, a1, b1⟩ := kk v st t Ls h0 (by rw [← e2]; exact X'.warmed) hq hL T' e1 X'
    exact ⟨t2, stp t2 a1, b1⟩
  · obtain ⟨t2, a1, b1⟩ := kx E ce q st t Ls h0 (by rw [← e2]; exact X'.warmed) hq hL hce hcv hcl T' e1 X'
    exact ⟨t2, stp.trans a1, b1⟩
/-- the two ends of an ordinary method -/
def MQx (below : List Frame) (g : GG) (base : Nat) (ρ0 : Nat → Nat) (n0 : Nat) (o : Ot) (args : Array Value) (s : State) (mc ms : Nat) : State → Prop := vx_MQ below (QC g base ρ0 n0 o) (XC g base ρ0 n0 o) args s mc ms (fun q => base ≤ q)
variable {p : Program} {l : Launch} {e : Env} {R : Room} {s : State} {m : MethodId} {args : Array Value} {below : List Frame} {meth : Method} {c : Code} {g : GG} {base y : Nat} {ρ0 : Nat → Nat} {n0 c0 s0 pc : Nat} {L : Lo} {S : List Value} {h : Hp} {o : Ot}
theorem rl_end {H : Heap} {locs : List Loc} {cells slots : Nat} {ls : Array Slot} {ρ : Nat → Nat} {v : Option Value} (r : Rl s g base y ρ0 n0 c0 s0 L S h H locs cells slots ls ρ) (hv : ∀ w, v = some w → okV h.1 w) (ho : o = (.inl v, h)) (t : State) (ht : t.heap = H) : QC g base ρ0 n0 o args s (.returned (v.map (rv ρ))) t := by
  subst ho
  exact ⟨v, ρ, rfl, rfl, r.2.2.1, r.2.2.2.1, by rw [ht]; exact r.2.1, hv, by rw [ht]; exact r.1.1, fun q h1 h2 => by rw [ht]; exact r.1.2.1 q h1 h2⟩
theorem end_x (M : MX p l R s m meth c y) {E : String} {H : Heap} {locs : List Loc} {cells slots : Nat} {ls : Array Slot} {st : List Value} {ρ : Nat → Nat} {q : Addr} {ce : Cell} (hc : cells ≤ R.cells) (hs : slots ≤ R.slots) (ho : o.1 = .inr E) (hS : va_S (fun q => base ≤ q) s.heap H locs) (hP : Pic base g ρ o.2 H) (h3 : ∀ k, k < n0 → ρ k = ρ0 k) (h4 : n0 ≤ o.2.1) (hce : H[q]? = some ce) (hcv : ce.vm = .none) (hcl : s.vm.findClass E = some ce.cls)
    (hpass : ∀ z ∈ c.exceptionTable.toList, covers z pc = false ∨ (z.catchType ≠ 0 ∧ ∃ nm : String, (Cond.classLink (ownN (mOwn y)) z.catchType nm).before args s = true ∧ va_Nc E nm s)) :
    vx_W p l e R s m args below meth c H locs cells slots (MQx below g base ρ0 n0 o args s R.cells R.slots) (F0 m pc ls st) q := by
  refine vx_outP M.2.2.2.2.2.1 M.2.2.2.1 hpass hce hcv hcl (fun t ht hA => ⟨ho, ρ, h3, h4, by rw [ht]; exact hP, by rw [ht]; exact hS.1, fun q h1 h2 => by rw [ht]; exact hS.2.1 q h1 h2⟩) hS.2.2 hc hs
def hOf : Ac → Hp
  | .inl (_, _, _, h) => h
  | .inr (.inl (_, h)) => h
  | .inr (.inr (_, _, _, _, _, h)) => h
def le3 (h h' : Hp) : Prop := h.1 ≤ h'.1 ∧ h.2.1 ≤ h'.2.1 ∧ h.2.2.1 ≤ h'.2.2.1
theorem le3_rf (h : Hp) : le3 h h := ⟨Nat.le_refl _, Nat.le_refl _, Nat.le_refl _⟩
theorem le3_tr {a b d : Hp} (h1 : le3 a b) (h2 : le3 b d) : le3 a d := ⟨Nat.le_trans h1.1 h2.1, Nat.le_trans h1.2.1 h2.2.1, Nat.le_trans h1.2.2 h2.2.2⟩
theorem le3_new (h : Hp) (x : va_E) (k : Nat) : le3 h (hnew h x k) := ⟨Nat.le_succ _, Nat.le_succ _, Nat.le_add_right _ _⟩
theorem le3_bump (h : Hp) : le3 h (hbump h) := ⟨Nat.le_refl _, Nat.le_succ _, Nat.le_add_right _ _⟩
theorem pf_le {h h1 : Hp} {ci j a : Nat} {v : Value} (hg : pf h ci j a v = some h1) : le3 h h1 := by obtain ⟨_, _, _, _, _, rfl⟩ := pf_at hg; exact le3_rf _
theorem paI_le {h h1 : Hp} {a : Nat} {i x : Int32} (hg : paI h a i x = some h1) : le3 h h1 := by obtain ⟨_, _, _, _, _, rfl⟩ := paI_at hg; exact le3_rf _
theorem paR_le {h h1 : Hp} {a v : Nat} {i : Int32} (hg : paR h a i v = some h1) : le3 h h1 := by obtain ⟨_, _, _, _, _, _, _, _, rfl⟩ := paR_at hg; exact le3_rf _
theorem cpI_le {h h1 : Hp} {a0 a1 : Nat} {sp dp z : Int32} (hg : cpI h a0 sp a1 dp z = some h1) : le3 h h1 := by obtain ⟨_, _, _, _, _, _, _, _, _, _, rfl⟩ := cpI_at hg; exact le3_rf _
def Lp (h : Hp) (x : Option Ac) : Prop := ∀ a, x = some a → le3 h (hOf a)
theorem lp_none (h : Hp) : Lp h none := fun _ q => by cases q
theorem lp_go {h h1 : Hp} {pc : Nat} {L : Lo} {S : List Value} (q : le3 h h1) : Lp h (go pc L S h1) := fun _ e => by cases e; exact q
theorem lp_some {h : Hp} {a : Ac} (q : le3 h (hOf a)) : Lp h (some a) := fun _ e => by cases e; exact q
theorem lp_bind {α : Type} {h : Hp} {o : Option α} {f : α → Option Ac} (q : ∀ v, o = some v → Lp h (f v)) : Lp h (o.bind f) := by
  cases o with
  | none => exact lp_none h
  | some v => exact q v rfl
theorem lp_call {m pc kind c : Nat} {L : Lo} {S : List Value} {h : Hp} : Lp h (call m pc kind c L S h) := by
  unfold call
  split
  · split <;> first | exact lp_none _ | exact lp_some (le3_rf _) | (split <;> first | exact lp_none _ | exact lp_some (le3_rf _))
  · exact lp_none _
set_option maxHeartbeats 4000000 in
theorem ins_le {m pc n : Nat} {i : Instr} {L : Lo} {S : List Value} {h : Hp} : Lp h (ins m pc n i L S h) := by
  cases i <;> unfold ins <;> (try unfold br) <;> (try unfold swi) <;> dsimp only <;>
    repeat' first
      | exact lp_none _
      | exact lp_go (le3_rf _)
      | exact lp_go (le3_new _ _ _)
      | exact lp_some (le3_rf _)
      | exact lp_some (le3_bump _)
      | exact lp_call
      | exact lp_go (pf_le (by assumption))
      | exact lp_go (paI_le (by assumption))
      | exact lp_go (paR_le (by assumption))
      | exact lp_go (cpI_le (by assumption))
      | (refine lp_bind fun v hv => ?_)
      | split
theorem stp_le {m pc : Nat} {L : Lo} {S : List Value} {h : Hp} {a : Ac} (hs : stp m pc L S h = some a) : le3 h (hOf a) := by
  unfold stp at hs
  exact lp_bind (fun v _ => ins_le) a hs
theorem run_le3 : ∀ (n : Nat) {m pc : Nat} {L : Lo} {S : List Value} {h : Hp} {o : Ot}, run n m pc L S h = some o → le3 h o.2 := by
  intro n
  induction n with
  | zero => intro m pc L S h o hr; cases hr
  | succ n ih =>
    intro m pc L S h o hr
    unfold run at hr
    cases hs : stp m pc L S h with
    | none => rw [hs] at hr; cases hr
    | some a =>
      have h0 := stp_le hs
      rw [hs] at hr
      simp only [Option.bind_some] at hr
      rcases a with ⟨pc', L', S', h'⟩ | o1 | ⟨c, As, pc', L', S', h'⟩
      · exact le3_tr h0 (ih hr)
      · cases hr; exact h0
      · simp only at hr
        cases h1 : run n c 0 (entL c As) [] h' with
        | none => rw [h1] at hr; cases hr
        | some o1 =>
          have h2 := le3_tr h0 (ih h1)
          rw [h1] at hr
          simp only [Option.bind_some] at hr
          rcases o1 with ⟨v | E, h1'⟩
          · exact le3_tr h2 (ih hr)
          · simp only at hr
            cases h3 : hnd (mHh m) pc E with
            | none => rw [h3] at hr; cases hr; exact h2
            | some hp =>
              rw [h3] at hr
              simp only at hr
              cases h4 : afterH m hp L' with
              | none => rw [h4] at hr; cases hr
              | some q =>
                rw [h4] at hr
                exact le3_tr h2 (ih hr)
def lenOk (i : Instr) (n : Nat) : Bool := match i with
  | .tableswitch .. => true
  | .lookupswitch .. => true
  | .aload _ => n == 2
  | .iload _ => n == 2
  | .dload _ => n == 2
  | .istore _ => n == 2
  | .astore _ => n == 2
  | .dstore _ => n == 2
  | .bipush _ => n == 2
  | .newarray _ => n == 2
  | .ldc _ => n == 2
  | .iinc .. => n == 3
  | .sipush _ => n == 3
  | .ldc2_w _ => n == 3
  | .ldc_w _ => n == 3
  | .ifCond .. => n == 3
  | .if_icmp .. => n == 3
  | .goto _ => n == 3
  | .getfield _ => n == 3
  | .putfield _ => n == 3
  | .getstatic _ => n == 3
  | .anewarray _ => n == 3
  | .new _ => n == 3
  | .invokevirtual _ => n == 3
  | .invokestatic _ => n == 3
  | .invokespecial _ => n == 3
  | _ => n == 1
theorem len_all : (List.range 153).all (fun m => (cdOf m).all fun e => lenOk e.2.1 e.2.2) = true := by decide +kernel
theorem lk_mem : ∀ {l : List (Nat × Instr × Nat)} {pc : Nat} {r : Instr × Nat}, lk l pc = some r → (pc, r) ∈ l := by
  intro l
  induction l with
  | nil => intro pc r h; cases h
  | cons e l ih =>
    intro pc r h
    unfold lk at h
    split at h
    · next q => cases h; subst q; exact List.mem_cons_self
    · exact List.mem_cons_of_mem _ (ih h)
theorem lk_len {m pc : Nat} {i : Instr} {n : Nat} (hm : m < 153) (h : lk (cdOf m) pc = some (i, n)) : lenOk i n = true :=
  List.all_eq_true.mp (List.all_eq_true.mp len_all m (List.mem_range.mpr hm)) _ (lk_mem h)
end SOUND
