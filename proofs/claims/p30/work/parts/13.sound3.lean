section SOUND3
variable {p : Program} {l : Launch} {e : Env} {R : Room} {s : State} {m : MethodId} {args : Array Value} {below : List Frame} {meth : Method} {c : Code} {Q : State → Prop} {g : GG} {base y : Nat} {ρ0 : Nat → Nat} {n0 c0 s0 pc : Nat} {L : Lo} {S : List Value} {h : Hp} {o : Ot}
theorem call_inv {kind k : Nat} {r : Nat × List Value × Nat × Lo × List Value × Hp} (hs : call y pc kind k L S h = some (.inr (.inr r))) : r = (k, (S.take (mNa k)).reverse, pc + 3, L, S.drop (mNa k), h) ∧ mF k + 1 ≤ mF y ∧ 19 + mMax k + mL k ≤ mL y ∧ mNa k ≤ S.length ∧ csum (S.drop (mNa k)) ≤ 8 ∧ (argL (S.take (mNa k)).reverse).length ≤ mMax k ∧ (kind = 0 → ∃ b As, (S.take (mNa k)).reverse = .ref b :: As ∧ isO h b (mOwn k) = true) ∧ (kind = 2 ∨ kind = 3 → ∃ b As, (S.take (mNa k)).reverse = .ref b :: As) := by
  unfold call at hs
  split at hs
  · next q =>
    obtain ⟨q1, q2, q3, q4, q5⟩ := q
    split at hs
    · next b As e =>
      split at hs
      · next q6 => cases hs; exact ⟨by rw [e], q1, q2, q3, q4, q5, fun _ => ⟨b, As, e, q6⟩, fun z => by omega⟩
      · cases hs
    · cases hs; exact ⟨rfl, q1, q2, q3, q4, q5, fun z => by omega, fun z => by omega⟩
    · next b As e => cases hs; exact ⟨by rw [e], q1, q2, q3, q4, q5, fun z => by omega, fun _ => ⟨b, As, e⟩⟩
    · next b As e => cases hs; exact ⟨by rw [e], q1, q2, q3, q4, q5, fun z => by omega, fun _ => ⟨b, As, e⟩⟩
    · cases hs
  · cases hs
def isCall : Instr → Bool
  | .invokevirtual _ => true
  | .invokestatic _ => true
  | .invokespecial _ => true
  | _ => false
def Nc (x : Option Ac) : Prop := ∀ r, x ≠ some (.inr (.inr r))
theorem nc_none : Nc none := fun _ q => by cases q
theorem nc_go {h1 : Hp} {pc : Nat} {L : Lo} {S : List Value} : Nc (go pc L S h1) := fun _ e => by cases e
theorem nc_end {o : Ot} : Nc (some (.inr (.inl o))) := fun _ e => by cases e
theorem nc_bind {α : Type} {o : Option α} {f : α → Option Ac} (q : ∀ v, o = some v → Nc (f v)) : Nc (o.bind f) := by
  cases o with
  | none => exact nc_none
  | some v => exact q v rfl
set_option maxHeartbeats 4000000 in
theorem ins_nc {m pc n : Nat} {i : Instr} {L : Lo} {S : List Value} {h : Hp} (hi : isCall i = false) : Nc (ins m pc n i L S h) := by
  cases i <;> first
    | (cases hi; done)
    | (unfold ins; (try unfold br); (try unfold swi); dsimp only
       repeat' first
        | exact nc_none
        | exact nc_go
        | exact nc_end
        | (refine nc_bind fun v hv => ?_)
        | split)
theorem stp_call {r : Nat × List Value × Nat × Lo × List Value × Hp} (hy : y < 153) (hs : stp y pc L S h = some (.inr (.inr r))) : ∃ (i : Instr) (idx kind : Nat), decode (mCc y) pc = .ok (i, 3) ∧ lk2 calT (mOwn y) idx = some (kind, r.1) ∧ call y pc kind r.1 L S h = some (.inr (.inr r)) ∧ ((kind = 0 ∧ i = .invokevirtual idx) ∨ (kind = 1 ∧ i = .invokestatic idx) ∨ (kind = 2 ∧ i = .invokespecial idx) ∨ (kind = 3 ∧ i = .invokespecial idx)) := by
  unfold stp at hs
  obtain ⟨⟨i, n⟩, hk, hs⟩ := bind_at hs
  have hd := lk_ok (dc_ok y hy) hk
  have hn := lk_len hy hk
  cases hi : isCall i with
  | false => exact absurd hs (ins_nc hi r)
  | true =>
    have hgo : ∀ {pc1 : Nat} {L1 : Lo} {S1 : List Value} {h1 : Hp}, go pc1 L1 S1 h1 ≠ some (.inr (.inr r)) := fun z => by cases z
    cases i <;> first | (cases hi; done) | skip
    case invokevirtual k =>
      have hn : n = 3 := by simpa [lenOk] using hn
      subst hn
      unfold ins at hs; dsimp only at hs
      obtain ⟨q, hq, hs⟩ := bind_at hs
      split at hs
      · next q0 =>
        have h1 := (call_inv hs).1
        obtain ⟨q1, q2⟩ := q
        subst q0
        have h2 : r.1 = q2 := by rw [h1]
        exact ⟨_, k, 0, hd, by rw [h2]; exact hq, by rw [h2]; exact hs, Or.inl ⟨rfl, rfl⟩⟩
      · cases hs
    case invokestatic k =>
      have hn : n = 3 := by simpa [lenOk] using hn
      subst hn
      unfold ins at hs; dsimp only at hs
      obtain ⟨q, hq, hs⟩ := bind_at hs
      split at hs
      · next q0 =>
        have h1 := (call_inv hs).1
        obtain ⟨q1, q2⟩ := q
        subst q0
        have h2 : r.1 = q2 := by rw [h1]
        exact ⟨_, k, 1, hd, by rw [h2]; exact hq, by rw [h2]; exact hs, Or.inr (Or.inl ⟨rfl, rfl⟩)⟩
      · split at hs
        · split at hs
          · split at hs
            · obtain ⟨h1, hv, hs⟩ := bind_at hs
              exact absurd hs hgo
            · cases hs
          · cases hs
        · cases hs
    case invokespecial k =>
      have hn : n = 3 := by simpa [lenOk] using hn
      subst hn
      unfold ins at hs; dsimp only at hs
      obtain ⟨q, hq, hs⟩ := bind_at hs
      split at hs
      · next q0 =>
        have h1 := (call_inv hs).1
        obtain ⟨q1, q2⟩ := q
        have h2 : r.1 = q2 := by rw [h1]
        rcases q0 with q0 | q0
        · have q0 : q1 = 2 := q0
          subst q0
          exact ⟨_, k, 2, hd, by rw [h2]; exact hq, by rw [h2]; exact hs, Or.inr (Or.inr (Or.inl ⟨rfl, rfl⟩))⟩
        · have q0 : q1 = 3 := q0
          subst q0
          exact ⟨_, k, 3, hd, by rw [h2]; exact hq, by rw [h2]; exact hs, Or.inr (Or.inr (Or.inr ⟨rfl, rfl⟩))⟩
      · split at hs
        · split at hs
          · split at hs
            · exact absurd hs hgo
            · cases hs
          · cases hs
        · cases hs
theorem cal_lt : ∀ e ∈ calT, e.2.2.1 ≤ 3 → e.2.2.2 < 152 := by decide +kernel
theorem rl_after {H : Heap} {locs : List Loc} {cells slots : Nat} {ls : Array Slot} {ρ ρ' : Nat → Nat} {S' : List Value} {o1 : Hp} {st t : State} {Ls : List Loc} {v : Option Value} (r1 : va_S (fun q => base ≤ q) s.heap H locs) (r3 : ∀ k, k < n0 → ρ k = ρ0 k) (r4 : n0 ≤ h.1) (r5 : LV ρ h.1 L ls (mMax y)) (r6 : ∀ w ∈ S', okV h.1 w) (r7 : cells + c0 = h.2.1) (r8 : slots + s0 = h.2.2.1)
    (hst : st.heap = H) (hx : ∀ k, k < h.1 → ρ' k = ρ k) (hn : h.1 ≤ o1.1) (hP : Pic base g ρ' o1 t.heap) (hv : ∀ w, v = some w → okV o1.1 w) (hF : va_F (fun q => base ≤ q) st t) (hLs : ∀ z ∈ Ls, base ≤ z.base) (hm : h.2.1 ≤ o1.2.1 ∧ h.2.2.1 ≤ o1.2.2.1) :
    Rl s g base y ρ0 n0 c0 s0 L (v.toList ++ S') o1 t.heap (locs ++ Ls) (cells + (o1.2.1 - h.2.1)) (slots + (o1.2.2.1 - h.2.2.1)) ls ρ' := by
  obtain ⟨hz, hk⟩ := hF
  rw [hst] at hz hk
  refine ⟨⟨Nat.le_trans r1.1 hz, fun q h1 h2 => by rw [hk q (Nat.lt_of_lt_of_le h1 r1.1) h2]; exact r1.2.1 q h1 h2, fun z hz => ?_⟩, hP, fun k hk => by rw [hx k (by omega)]; exact r3 k hk, Nat.le_trans r4 hn, r5.ext hn hx, ?_, by omega, by omega⟩
  · rcases List.mem_append.mp hz with q | q
    · exact r1.2.2 z q
    · exact hLs z q
  · intro w hw
    rcases List.mem_append.mp hw with q | q
    · cases v with
      | none => cases q
      | some u => rw [List.mem_singleton.mp q]; exact hv u rfl
    · exact okV_le hn (r6 w q)
theorem st_call {n : Nat} {k : Nat} {As : List Value} {pc' : Nat} {L' : Lo} {S' : List Value} {h' : Hp} {o1 : Ot} (M : MX p l R s m meth c y) (C : CT base g s s.heap) (IH : Snd n) (hs : stp y pc L S h = some (.inr (.inr (k, As, pc', L', S', h')))) (hrun : run n k 0 (entL k As) [] h' = some o1) (hc : o1.2.2.1 ≤ c0 + R.cells) (hsl : o1.2.2.2.1 ≤ s0 + R.slots)
    (kk : ∀ v, o1.1 = .inl v → WW p l e R s m args below meth c Q g base y ρ0 n0 c0 s0 pc' L' (v.toList ++ S') o1.2)
    (kx : ∀ E, o1.1 = .inr E → ∀ H locs cells slots ls ρ q ce, Rl s g base y ρ0 n0 c0 s0 L' S' o1.2 H locs cells slots ls ρ → H[q]? = some ce → ce.vm = .none → s.vm.findClass E = some ce.cls → vx_W p l e R s m args below meth c H locs cells slots Q (F0 m pc ls (S'.map (rv ρ))) q) :
    WW p l e R s m args below meth c Q g base y ρ0 n0 c0 s0 pc L S h := by
  have hy : y < 153 := M.2.2.2.2.2.2.2.2.2.2.2
  obtain ⟨i, idx, kind, hd, hl, hcall, hkind⟩ := stp_call hy hs
  obtain ⟨e1, f1, f2, f3, f4, f5, f6, f7⟩ := call_inv hcall
  dsimp only at e1 f1 f2 f3 f4 f5 f6 f7 hl hcall
  cases e1
  have hkl : k < 152 := cal_lt _ (lk2_mem hl) (by show kind ≤ 3; omega)
  have hmono : h.2.1 ≤ o1.2.2.1 ∧ h.2.2.1 ≤ o1.2.2.2.1 := (run_le3 n hrun).2
  have MK := mth_ok k (by omega) (by omega)
  have hcal := cal_ok _ (lk2_mem hl)
  have hFr := M.2.2.2.2.2.2.2.2.2.1
  have hLr := M.2.2.2.2.2.2.2.2.2.2.1
  have hws : ∀ w ∈ mW k :: Wg, ∀ (a' : Array Value) (U : State), s.WarmedH U.vm → w.before a' U = true := by
    intro w hw a' U hW
    have hw' : w ∈ Wg := by
      rcases List.mem_cons.mp hw with rfl | hw
      · exact MK.1
      · exact hw
    exact word_at hW (good_of_word (List.mem_filter.mp hw').2) (C.word hw' args)
  intro H locs cells slots ls ρ r
  obtain ⟨r1, r2, r3, r4, r5, r6, r7, r8⟩ := r
  have hM := met_of (g := g) (base := base) (ρ := ρ) l M.2.2.2.2.2.2.2.1 IH hkl hrun f5 hmono
  have hsplit : S = S.take (mNa k) ++ S.drop (mNa k) := (List.take_append_drop _ _).symm
  have hS' : ∀ w ∈ S.drop (mNa k), okV h.1 w := fun w hw => r6 w (List.mem_of_mem_drop hw)
  have hAs : ∀ w ∈ (S.take (mNa k)).reverse, okV h.1 w := fun w hw => r6 w (List.mem_of_mem_take (List.mem_reverse.mp hw))
  have hAlen : ((S.take (mNa k)).reverse.map (rv ρ)).length = mNa k := by rw [List.length_map, List.length_reverse, List.length_take]; omega
  have hst : S.map (rv ρ) = ((S.take (mNa k)).reverse.map (rv ρ)).reverse ++ (S.drop (mNa k)).map (rv ρ) := by
    rw [← List.map_reverse, List.reverse_reverse, ← List.map_append, ← hsplit]
  have hroom : 2 * (F0 m pc ls (S.map (rv ρ))).monitorRoom + (((S.drop (mNa k)).map (rv ρ)).map fun v => v.category).sum ≤ 8 := by
    rw [csum_map]
    show 2 * 0 + _ ≤ 8
    omega
  have hPc : ∀ U : State, U.heap = H → s.WarmedH U.vm → PC g base ρ h (S.take (mNa k)).reverse ((S.take (mNa k)).reverse.map (rv ρ)).toArray U := by
    intro U hU hW
    refine ⟨rfl, ?_, by rw [hU]; exact r2, hAs⟩
    rw [hU]
    exact (C.warm hW).kept r1.1 (fun a h1 h2 => r1.2.1 a h1 h2)
  have hf : cells + (o1.2.2.1 - h.2.1) ≤ R.cells ∧ slots + (o1.2.2.2.1 - h.2.2.1) ≤ R.slots := ⟨by omega, by omega⟩
  have hfr : mF k + 1 ≤ R.frames := by omega
  have hlo : 8 + (mMax k + 11) + mL k ≤ R.locals := by omega
  have hfix : CallFix p m c (mCc y) (mMax y) s args Wg (ownN (mOwn y)) := ⟨M.1, M.2.1, M.2.2.2.2.1, M.2.2.2.2.2.1, fun w hw => C.word hw args⟩
  have hsz : (F0 m pc ls (S.map (rv ρ))).locals.size = mMax y := r5.2.1
  have fin : vx_Run p l e R s m args below meth c H locs cells slots (o1.2.2.1 - h.2.1) (o1.2.2.2.1 - h.2.2.1) (F0 m pc ls (S.map (rv ρ))) ((S.drop (mNa k)).map (rv ρ)) (QC g base ρ h.1 o1 ((S.take (mNa k)).reverse.map (rv ρ)).toArray) (XC g base ρ h.1 o1) (fun q => base ≤ q) → W p l e R s m args below meth c H locs cells slots Q (F0 m pc ls (S.map (rv ρ))) := by
    intro hr
    refine callG hr ?_ ?_
    · intro E ce q st t Ls h0 hW hX hLs hce hcv hcl
      obtain ⟨hE, ρ', hx, hn, hP, hF⟩ := hX
      have h9 := kx E hE t.heap (locs ++ Ls) (cells + (o1.2.2.1 - h.2.1)) (slots + (o1.2.2.2.1 - h.2.2.1)) ls ρ' q ce (rl_after (v := none) r1 r3 r4 r5 hS' r7 r8 h0 hx hn hP (fun w hw => by cases hw) hF hLs hmono) hce hcv hcl
      rw [map_ext hx hS'] at h9
      exact h9
    · intro v st t Ls h0 hW hQ hLs
      obtain ⟨v', ρ', ho, hv, hx, hn, hP, hok, hF⟩ := hQ
      have hv : v = v'.map (rv ρ') := by cases hv; rfl
      have h9 := kk v' ho t.heap (locs ++ Ls) (cells + (o1.2.2.1 - h.2.1)) (slots + (o1.2.2.2.1 - h.2.2.1)) ls ρ' (rl_after (v := v') r1 r3 r4 r5 hS' r7 r8 h0 hx hn hP hok hF hLs hmono)
      rw [List.map_append, map_ext hx hS'] at h9
      have e9 : v.toList ++ (S.drop (mNa k)).map (rv ρ) = v'.toList.map (rv ρ') ++ (S.drop (mNa k)).map (rv ρ) := by rw [hv]; cases v' <;> rfl
      rw [e9]
      exact h9
  apply fin
  have hini : (Cond.initialized (mY k).cls).before args s = true := C.word MK.2.1 args
  have hcode : (mHh k).isEmpty = true → mW k = Cond.code (mY k) (mCc k) (mMax k) (mRet k) := fun q => by unfold mW; rw [if_pos q]
  have har : ∀ {a : Nat}, arity (mY k) = some a → ∀ sig, parseMethodDescriptor (mY k).desc = some sig → a = sig.parameters.length := by
    intro a ha sig hsig
    unfold arity at ha
    rw [hsig] at ha
    exact (Option.some.inj ha).symm
  have hcodeW : (mW k).before args s = true := C.word MK.1 args
  rcases hkind with ⟨rfl, rfl⟩ | ⟨rfl, rfl⟩ | ⟨rfl, rfl⟩ | ⟨rfl, rfl⟩
  · obtain ⟨b, As, eA, hO⟩ := f6 rfl
    obtain ⟨w1, w2, w3, w4, w5, w6, w7, w8⟩ := hcal
    dsimp only at w1 w2 w3 w4 w5 w6 w7 w8
    obtain ⟨fs, hfs⟩ := isO_at hO
    have hb : b < h.1 := by have := hAs (.ref b) (by rw [eA]; exact List.mem_cons_self); exact this
    have hb3 : 3 ≤ b := by
      rcases Nat.lt_or_ge b 3 with q | q
      · rw [(r2.2.2.2.2 b q).2] at hfs; cases hfs
      · exact q
    have heb : (wl g ρ h)[b - 3]? = some (ρ b, .inr (mOwn k, fs.map (rv ρ))) := by rw [wl_at g ρ h hb3 hb, hfs]; rfl
    have hrecv := va_recv C.1 r2.1 (cls_ok (mOwn k) w4).1 heb
    rw [hcode w8] at hM hws hcodeW
    rw [eA] at hst hPc hAlen hM
    rw [eA]
    refine vx_runV (As := As.map (rv ρ)) (C := RC (mOwn k)) (n := mNa k - 1) hfix hM ⟨⟨rfl, rfl, hfr, hlo, hws, List.mem_cons_self, hcodeW, hini, MK.2.2.2.2, har w6, C.word w1 args⟩, C.word w2 args, C.word w3 args⟩ ⟨PC_blind _ _ _ _ _, hrecv, hPc⟩ rfl ?_ hsz ?_ hroom hd hf
    · rw [List.length_map, List.length_cons] at hAlen; rw [List.length_map]; omega
    · show S.map (rv ρ) = _
      rw [hst, List.map_cons, List.reverse_cons, List.append_assoc]; rfl
  · obtain ⟨w1, w2, w3⟩ := hcal
    dsimp only at w1 w2 w3
    cases hh : (mHh k).isEmpty with
    | true =>
      rw [hcode hh] at hM hws hcodeW
      exact vx_runS (n := mNa k) hfix hM ⟨⟨rfl, rfl, hfr, hlo, hws, List.mem_cons_self, hcodeW, hini, MK.2.2.2.2, har w3, C.word w1 args⟩, C.word w2 args⟩ ⟨PC_blind _ _ _ _ _, hPc⟩ rfl hAlen hsz hst hroom hd hf
    | false =>
      have eW : mW k = Cond.codeWith (mY k) (mCc k) (mMax k) (mRet k) (mHh k) := by unfold mW; rw [if_neg (by rw [hh]; exact Bool.false_ne_true)]
      rw [eW] at hM hws hcodeW
      exact vx_runSX (n := mNa k) hfix hM ⟨⟨rfl, rfl, hfr, hlo, hws, List.mem_cons_self⟩, hcodeW, hini, MK.2.2.2.2, har w3, C.word w1 args, C.word w2 args⟩ ⟨PC_blind _ _ _ _ _, hPc⟩ rfl hAlen hsz hst hroom hd hf
  · obtain ⟨b, As, eA⟩ := f7 (Or.inl rfl)
    obtain ⟨w1, w2, w3, w4, w5, w6, w7⟩ := hcal
    dsimp only at w1 w2 w3 w4 w5 w6 w7
    rw [hcode w6, w7] at hM hws hcodeW
    rw [eA] at hst hPc hAlen hM
    rw [eA]
    refine vx_runI (b := ρ b) (As := As.map (rv ρ)) (n := mNa k - 1) hfix hM ⟨⟨rfl, rfl, hfr, hlo, hws, List.mem_cons_self, hcodeW, hini, MK.2.2.2.2, har w4, C.word w1 args⟩, w3, C.word w2 args⟩ ⟨PC_blind _ _ _ _ _, hPc⟩ rfl ?_ hsz ?_ hroom hd hf
    · rw [List.length_map, List.length_cons] at hAlen; rw [List.length_map]; omega
    · show S.map (rv ρ) = _
      rw [hst, List.map_cons, List.reverse_cons, List.append_assoc]; rfl
  · obtain ⟨b, As, eA⟩ := f7 (Or.inr rfl)
    obtain ⟨w1, w2, w3, w4, w5, w6, w7⟩ := hcal
    dsimp only at w1 w2 w3 w4 w5 w6 w7
    rw [hcode w6, w7] at hM hws hcodeW
    rw [eA] at hst hPc hAlen hM
    rw [eA]
    refine vx_runIN (b := ρ b) (As := As.map (rv ρ)) (n := mNa k - 1) hfix hM ⟨⟨⟨rfl, rfl, hfr, hlo, hws, List.mem_cons_self⟩, hcodeW, hini, MK.2.2.2.2, har w4, C.wordW w1 rfl args⟩, w3, C.word w2 args⟩ ⟨PC_blind _ _ _ _ _, hPc⟩ rfl ?_ hsz ?_ hroom hd hf
    · rw [List.length_map, List.length_cons] at hAlen; rw [List.length_map]; omega
    · show S.map (rv ρ) = _
      rw [hst, List.map_cons, List.reverse_cons, List.append_assoc]; rfl
end SOUND3
