section STEP
variable {p : Program} {l : Launch} {e : Env} {R : Room} {s : State} {m : MethodId} {args : Array Value} {below : List Frame} {meth : Method} {c : Code} {Q : State → Prop} {g : GG} {base y : Nat} {ρ0 : Nat → Nat} {n0 c0 s0 pc : Nat} {L : Lo} {S : List Value} {h : Hp}
theorem bind_at {α β : Type} {o : Option α} {f : α → Option β} {b : β} (h : o.bind f = some b) : ∃ v, o = some v ∧ f v = some b := by
  cases o with
  | none => cases h
  | some v => exact ⟨v, rfl, h⟩
theorem call_at {m pc kind k : Nat} {L : Lo} {S : List Value} {h : Hp} {a : Ac} (hs : call m pc kind k L S h = some a) : ∃ q, a = .inr (.inr q) := by
  unfold call at hs
  split at hs
  · split at hs
    · split at hs
      · cases hs; exact ⟨_, rfl⟩
      · cases hs
    · cases hs; exact ⟨_, rfl⟩
    · cases hs; exact ⟨_, rfl⟩
    · cases hs; exact ⟨_, rfl⟩
    · cases hs
  · cases hs
set_option maxHeartbeats 4000000 in
/-- one step of the interpreter that goes on is a step of the machine -/
theorem step {a : Ac} (M : MX p l R s m meth c y) (C : CT base g s s.heap) (hs : stp y pc L S h = some a) (hc : (hOf a).2.1 ≤ c0 + R.cells) (hsl : (hOf a).2.2.1 ≤ s0 + R.slots) (K : match a with | .inl (pc', L', S', h') => WW p l e R s m args below meth c Q g base y ρ0 n0 c0 s0 pc' L' S' h' | _ => WW p l e R s m args below meth c Q g base y ρ0 n0 c0 s0 pc L S h) : WW p l e R s m args below meth c Q g base y ρ0 n0 c0 s0 pc L S h := by
  unfold stp at hs
  obtain ⟨⟨i, n⟩, hk, hs⟩ := bind_at hs
  have hy : y < 153 := M.2.2.2.2.2.2.2.2.2.2.2
  have hd := lk_ok (dc_ok y hy) hk
  have hn := lk_len hy hk
  cases i <;> unfold ins at hs <;> dsimp only at hs hd
  case aload k =>
    have hn : n = 2 := by simpa [lenOk] using hn
    subst hn
    split at hs
    · next x e => cases hs; exact st_aload M hd e K
    · cases hs
  case aload_n k =>
    have hn : n = 1 := by simpa [lenOk] using hn
    subst hn
    split at hs
    · next x e => cases hs; exact st_aload_n M hd e K
    · cases hs
  case iload k =>
    have hn : n = 2 := by simpa [lenOk] using hn
    subst hn
    split at hs
    · next x e => cases hs; exact st_iload M hd e K
    · cases hs
  case iload_n k =>
    have hn : n = 1 := by simpa [lenOk] using hn
    subst hn
    split at hs
    · next x e => cases hs; exact st_iload_n M hd e K
    · cases hs
  case lload_n k =>
    have hn : n = 1 := by simpa [lenOk] using hn
    subst hn
    split at hs
    · next x e => cases hs; exact st_lload_n M hd e K
    · cases hs
  case dload k =>
    have hn : n = 2 := by simpa [lenOk] using hn
    subst hn
    split at hs
    · next x e => cases hs; exact st_dload M hd e K
    · cases hs
  case istore k =>
    have hn : n = 2 := by simpa [lenOk] using hn
    subst hn
    split at hs
    · next x S =>
      split at hs
      · next q => cases hs; exact st_istore M hd q K
      · cases hs
    · cases hs
  case istore_n k =>
    have hn : n = 1 := by simpa [lenOk] using hn
    subst hn
    split at hs
    · next x S =>
      split at hs
      · next q => cases hs; exact st_istore_n M hd q K
      · cases hs
    · cases hs
  case astore k =>
    have hn : n = 2 := by simpa [lenOk] using hn
    subst hn
    split at hs
    · next x S =>
      split at hs
      · next q => cases hs; exact st_astore M hd q K
      · cases hs
    · cases hs
  case astore_n k =>
    have hn : n = 1 := by simpa [lenOk] using hn
    subst hn
    split at hs
    · next x S =>
      split at hs
      · next q => cases hs; exact st_astore_n M hd q K
      · cases hs
    · cases hs
  case lstore_n k =>
    have hn : n = 1 := by simpa [lenOk] using hn
    subst hn
    split at hs
    · next x S =>
      split at hs
      · next q => cases hs; exact st_lstore_n M hd q K
      · cases hs
    · cases hs
  case dstore k =>
    have hn : n = 2 := by simpa [lenOk] using hn
    subst hn
    split at hs
    · next x S =>
      split at hs
      · next q => cases hs; exact st_dstore M hd q K
      · cases hs
    · cases hs
  case iinc k d =>
    have hn : n = 3 := by simpa [lenOk] using hn
    subst hn
    split at hs
    · next x e => cases hs; exact st_iinc M hd e K
    · cases hs
  case ldc k =>
    have hn : n = 2 := by simpa [lenOk] using hn
    subst hn
    split at hs
    · next v e => cases hs; exact st_ldci M C hd e K
    · cases hs
  case iconst d =>
    have hn : n = 1 := by simpa [lenOk] using hn
    subst hn
    cases hs; exact st_iconst M hd K
  case bipush d =>
    have hn : n = 2 := by simpa [lenOk] using hn
    subst hn
    cases hs; exact st_bipush M hd K
  case sipush d =>
    have hn : n = 3 := by simpa [lenOk] using hn
    subst hn
    cases hs; exact st_sipush M hd K
  case dconst d =>
    have hn : n = 1 := by simpa [lenOk] using hn
    subst hn
    split at hs
    · next q => subst q; cases hs; exact st_dconst0 M hd K
    · split at hs
      · next q => subst q; cases hs; exact st_dconst1 M hd K
      · cases hs
  case ldc2_w k =>
    have hn : n = 3 := by simpa [lenOk] using hn
    subst hn
    split at hs
    · next v e => cases hs; exact st_ldc2 M C hd e K
    · next v e => cases hs; exact st_ldc2d M C hd e K
    · cases hs
  case dup  =>
    have hn : n = 1 := by simpa [lenOk] using hn
    subst hn
    split at hs
    · next v S =>
      split at hs
      · next q => cases hs; exact st_dup M hd q K
      · cases hs
    · cases hs
  case pop  =>
    have hn : n = 1 := by simpa [lenOk] using hn
    subst hn
    split at hs
    · next v S =>
      split at hs
      · next q => cases hs; exact st_pop M hd q K
      · cases hs
    · cases hs
  case dup2  =>
    have hn : n = 1 := by simpa [lenOk] using hn
    subst hn
    split at hs
    · next v w S =>
      split at hs
      · next q => cases hs; exact st_dup2 M hd q.1 q.2 K
      · cases hs
    · cases hs
  case iadd  =>
    have hn : n = 1 := by simpa [lenOk] using hn
    subst hn
    split at hs
    · next z x S => cases hs; exact st_iadd M hd K
    · cases hs
  case isub  =>
    have hn : n = 1 := by simpa [lenOk] using hn
    subst hn
    split at hs
    · next z x S => cases hs; exact st_isub M hd K
    · cases hs
  case imul  =>
    have hn : n = 1 := by simpa [lenOk] using hn
    subst hn
    split at hs
    · next z x S => cases hs; exact st_imul M hd K
    · cases hs
  case iand  =>
    have hn : n = 1 := by simpa [lenOk] using hn
    subst hn
    split at hs
    · next z x S => cases hs; exact st_iand M hd K
    · cases hs
  case ior  =>
    have hn : n = 1 := by simpa [lenOk] using hn
    subst hn
    split at hs
    · next z x S => cases hs; exact st_ior M hd K
    · cases hs
  case ixor  =>
    have hn : n = 1 := by simpa [lenOk] using hn
    subst hn
    split at hs
    · next z x S => cases hs; exact st_ixor M hd K
    · cases hs
  case ishl  =>
    have hn : n = 1 := by simpa [lenOk] using hn
    subst hn
    split at hs
    · next z x S => cases hs; exact st_ishl M hd K
    · cases hs
  case ishr  =>
    have hn : n = 1 := by simpa [lenOk] using hn
    subst hn
    split at hs
    · next z x S => cases hs; exact st_ishr M hd K
    · cases hs
  case ladd  =>
    have hn : n = 1 := by simpa [lenOk] using hn
    subst hn
    split at hs
    · next z x S => cases hs; exact st_ladd M hd K
    · cases hs
  case lmul  =>
    have hn : n = 1 := by simpa [lenOk] using hn
    subst hn
    split at hs
    · next z x S => cases hs; exact st_lmul M hd K
    · cases hs
  case lcmp  =>
    have hn : n = 1 := by simpa [lenOk] using hn
    subst hn
    split at hs
    · next z x S => cases hs; exact st_lcmp M hd K
    · cases hs
  case ineg  =>
    have hn : n = 1 := by simpa [lenOk] using hn
    subst hn
    split at hs
    · next x S => cases hs; exact st_ineg M hd K
    · cases hs
  case i2l  =>
    have hn : n = 1 := by simpa [lenOk] using hn
    subst hn
    split at hs
    · next x S => cases hs; exact st_i2l M hd K
    · cases hs
  case i2d  =>
    have hn : n = 1 := by simpa [lenOk] using hn
    subst hn
    split at hs
    · next x S => cases hs; exact st_i2d M hd K
    · cases hs
  case idiv  =>
    have hn : n = 1 := by simpa [lenOk] using hn
    subst hn
    split at hs
    · next z x S =>
      split at hs
      · cases hs
      · next q => cases hs; exact st_idiv M hd q K
    · cases hs
  case irem  =>
    have hn : n = 1 := by simpa [lenOk] using hn
    subst hn
    split at hs
    · next z x S =>
      split at hs
      · cases hs
      · next q => cases hs; exact st_irem M hd q K
    · cases hs
  case ddiv  =>
    have hn : n = 1 := by simpa [lenOk] using hn
    subst hn
    split at hs
    · next z x S =>
      split at hs
      · next q => cases hs; exact st_ddiv M hd q K
      · cases hs
    · cases hs
  case dadd  =>
    have hn : n = 1 := by simpa [lenOk] using hn
    subst hn
    split at hs
    · next z x S =>
      split at hs
      · next q => cases hs; exact st_dadd M hd q K
      · cases hs
    · cases hs
  case dcmp op =>
    have hn : n = 1 := by simpa [lenOk] using hn
    subst hn
    split at hs
    · next z x S => cases hs; exact st_dcmp M hd K
    · cases hs
  case goto off =>
    have hn : n = 3 := by simpa [lenOk] using hn
    subst hn
    obtain ⟨t, ht, hs⟩ := bind_at hs
    cases hs; exact st_goto M hd ht K
  case if_icmp op off =>
    have hn : n = 3 := by simpa [lenOk] using hn
    subst hn
    split at hs
    · next z x S =>
      obtain ⟨t, ht, hs⟩ := bind_at hs
      split at hs
      · next q => cases hs; exact st_icmp M hd ht (fun _ => K) (fun q2 => absurd q q2)
      · next q => cases hs; exact st_icmp M hd ht (fun q2 => absurd q2 q) (fun _ => K)
    · cases hs
  case ifCond op off =>
    have hn : n = 3 := by simpa [lenOk] using hn
    subst hn
    split at hs
    · next x S =>
      obtain ⟨t, ht, hs⟩ := bind_at hs
      split at hs
      · next q => cases hs; exact st_if M hd ht (fun _ => K) (fun q2 => absurd q q2)
      · next q => cases hs; exact st_if M hd ht (fun q2 => absurd q2 q) (fun _ => K)
    · cases hs
  case tableswitch d lo hi offs =>
    split at hs
    · next x S =>
      unfold swi at hs
      dsimp only at hs
      split at hs
      · next q =>
        obtain ⟨t, ht, hs⟩ := bind_at hs
        cases hs; exact st_tblO M hd q ht K
      · next q =>
        obtain ⟨o, ho, hs⟩ := bind_at hs
        obtain ⟨t, ht, hs⟩ := bind_at hs
        cases hs; exact st_tblI M hd q ho ht K
    · cases hs
  case lookupswitch d ps =>
    split at hs
    · next x S =>
      unfold swi at hs
      dsimp only at hs
      split at hs
      · next q =>
        obtain ⟨t, ht, hs⟩ := bind_at hs
        cases hs; exact st_lkp M hd q ht K
      · cases hs
    · cases hs
  case getfield k =>
    have hn : n = 3 := by simpa [lenOk] using hn
    subst hn
    split at hs
    · next x S =>
      obtain ⟨r0, hr, hs⟩ := bind_at hs
      obtain ⟨v, hv, hs⟩ := bind_at hs
      cases hs; exact st_get M C hd hr hv K
    · cases hs
  case putfield k =>
    have hn : n = 3 := by simpa [lenOk] using hn
    subst hn
    split at hs
    · next v x S =>
      obtain ⟨r0, hr, hs⟩ := bind_at hs
      split at hs
      · next q =>
        obtain ⟨h1, hv, hs⟩ := bind_at hs
        cases hs; exact st_put M C hd hr q hv K
      · cases hs
    · cases hs
  case getstatic k =>
    have hn : n = 3 := by simpa [lenOk] using hn
    subst hn
    obtain ⟨v, hv, hs⟩ := bind_at hs
    cases hs; exact st_gets M C hd hv K
  case iaload  =>
    have hn : n = 1 := by simpa [lenOk] using hn
    subst hn
    split at hs
    · next j x S =>
      obtain ⟨v, hv, hs⟩ := bind_at hs
      cases hs; exact st_iald M C hd hv K
    · cases hs
  case aaload  =>
    have hn : n = 1 := by simpa [lenOk] using hn
    subst hn
    split at hs
    · next j x S =>
      obtain ⟨v, hv, hs⟩ := bind_at hs
      cases hs; exact st_aald M C hd hv K
    · cases hs
  case iastore  =>
    have hn : n = 1 := by simpa [lenOk] using hn
    subst hn
    split at hs
    · next z j x S =>
      obtain ⟨v, hv, hs⟩ := bind_at hs
      cases hs; exact st_iast M C hd hv K
    · cases hs
  case aastore  =>
    have hn : n = 1 := by simpa [lenOk] using hn
    subst hn
    split at hs
    · next z j x S =>
      obtain ⟨v, hv, hs⟩ := bind_at hs
      cases hs; exact st_aast M C hd hv K
    · cases hs
  case arraylength  =>
    have hn : n = 1 := by simpa [lenOk] using hn
    subst hn
    split at hs
    · next x S =>
      obtain ⟨v, hv, hs⟩ := bind_at hs
      cases hs; exact st_alen M C hd hv K
    · cases hs
  case newarray t =>
    have hn : n = 2 := by simpa [lenOk] using hn
    subst hn
    split at hs
    · next N S =>
      obtain ⟨k, hk2, hs⟩ := bind_at hs
      split at hs
      · next q =>
        cases hs
        unfold tyA at hk2
        split at hk2
        · cases hk2; exact st_newarray_int M C hd q hc hsl K
        · cases hk2
      · cases hs
    · cases hs
  case anewarray k =>
    have hn : n = 3 := by simpa [lenOk] using hn
    subst hn
    split at hs
    · next N S =>
      obtain ⟨t, ht, hs⟩ := bind_at hs
      split at hs
      · next q => cases hs; exact st_anewarray M C hd ht q hc hsl K
      · cases hs
    · cases hs
  case new k =>
    have hn : n = 3 := by simpa [lenOk] using hn
    subst hn
    split at hs
    · next ci e => cases hs; exact st_new M C hd e hc hsl K
    · split at hs
      · split at hs
        · cases hs; exact K
        · cases hs
      · cases hs
  case invokevirtual k =>
    obtain ⟨r, hr, hs⟩ := bind_at hs
    split at hs
    · obtain ⟨q, hq⟩ := call_at hs
      subst hq; exact K
    · cases hs
  case invokestatic k =>
    have hn : n = 3 := by simpa [lenOk] using hn
    subst hn
    obtain ⟨r, hr, hs⟩ := bind_at hs
    split at hs
    · obtain ⟨q, hq⟩ := call_at hs
      subst hq; exact K
    · split at hs
      · next q8 =>
        split at hs
        · split at hs
          · next q =>
            obtain ⟨h1, hv, hs⟩ := bind_at hs
            cases hs
            obtain ⟨r1, r2⟩ := r
            subst q8
            exact st_copy M C hd hr q.1 q.2 hv K
          · cases hs
        · cases hs
      · cases hs
  case invokespecial k =>
    have hn : n = 3 := by simpa [lenOk] using hn
    subst hn
    obtain ⟨r, hr, hs⟩ := bind_at hs
    split at hs
    · obtain ⟨q, hq⟩ := call_at hs
      subst hq; exact K
    · split at hs
      · next q9 =>
        split at hs
        · split at hs
          · next q =>
            cases hs
            obtain ⟨r1, r2⟩ := r
            subst q9
            exact st_objInit M C hd hr q.1 q.2 K
          · cases hs
        · cases hs
      · cases hs
  case ireturn =>
    split at hs
    · obtain ⟨ty, h1, hs⟩ := bind_at hs
      split at hs
      · cases hs; exact K
      · cases hs
    · cases hs
  case lreturn =>
    split at hs
    · split at hs
      · cases hs; exact K
      · cases hs
    · cases hs
  case dreturn =>
    split at hs
    · split at hs
      · cases hs; exact K
      · cases hs
    · cases hs
  case return_ =>
    split at hs
    · split at hs
      · cases hs; exact K
      · cases hs
    · cases hs
  all_goals cases hs
end STEP
