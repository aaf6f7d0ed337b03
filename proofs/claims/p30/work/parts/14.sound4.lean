section SOUND4
theorem LV.drop {ρ : Nat → Nat} {n : Nat} {L : Lo} {ls ls' : Array Slot} {nL k : Nat} {x : Value} (h : LV ρ n L ls nL) (h' : lv_has ls' nL ((k, x) :: (lvl ρ L).filter (fun q => !(q.1 == k) && !(q.1 + 1 == k && q.2.category == 2)))) : LV ρ n ((lst1 k L (.int 0)).set k none) ls' nL := by
  refine ⟨by rw [List.length_set, lst1_len]; exact h.1, h'.1, h'.2.1, fun j w hw => ?_⟩
  by_cases hj : j = k
  · subst hj
    rw [List.getElem?_set] at hw
    simp only [if_true] at hw
    split at hw <;> cases hw
  · rw [List.getElem?_set_ne (fun q => hj q.symm)] at hw
    rcases lst1_get k L (.int 0) j w hw with ⟨h1, -⟩ | ⟨h1, h2, h3⟩
    · exact absurd h1 hj
    · refine ⟨(h.2.2.2 j w h2).1, h'.2.2 (j, rv ρ w) (List.mem_cons_of_mem _ (List.mem_filter.mpr ⟨lvl_mem h2, ?_⟩))⟩
      simp only [Bool.and_eq_true, Bool.not_eq_true', beq_eq_false_iff_ne, ne_eq, Bool.and_eq_false_iff, cat_rv]
      refine ⟨h1, ?_⟩
      by_cases q : j + 1 = k
      · exact Or.inr (fun z => h3 ⟨q, z⟩)
      · exact Or.inl q
/-- the handler's first instruction puts the exception away -/
theorem st_handler {p : Program} {l : Launch} {e : Env} {R : Room} {s : State} {m : MethodId} {args : Array Value} {below : List Frame} {meth : Method} {c : Code} {Q : State → Prop} {g : GG} {base y : Nat} {ρ0 : Nat → Nat} {n0 c0 s0 : Nat} {L : Lo} {S : List Value} {h : Hp} {hp : Nat} {q : Nat × Lo} (M : MX p l R s m meth c y) (ha : afterH y hp L = some q) (kk : WW p l e R s m args below meth c Q g base y ρ0 n0 c0 s0 q.1 q.2 [] h)
    {H : Heap} {locs : List Loc} {cells slots : Nat} {ls : Array Slot} {ρ : Nat → Nat} (r : Rl s g base y ρ0 n0 c0 s0 L S h H locs cells slots ls ρ) (z : Addr) : W p l e R s m args below meth c H locs cells slots Q (F0 m hp ls [.ref z]) := by
  obtain ⟨r1, r2, r3, r4, r5, r6, r7, r8⟩ := r
  have hy : y < 153 := M.2.2.2.2.2.2.2.2.2.2.2
  unfold afterH at ha
  split at ha
  · next k n hk =>
    split at ha
    · next hlt =>
      cases ha
      have hn : n = 2 := by simpa [lenOk] using lk_len hy hk
      subst hn
      rw [r5.1] at hlt
      exact lv_astore M.1 M.2.1 (lk_ok (dc_ok y hy) hk) r5.has hlt rfl (fun ls' hl => kk H locs cells slots ls' ρ ⟨r1, r2, r3, r4, r5.drop hl, fun v hv => (by cases hv), r7, r8⟩)
    · cases ha
  · next k n hk =>
    split at ha
    · next hlt =>
      cases ha
      have hn : n = 1 := by simpa [lenOk] using lk_len hy hk
      subst hn
      rw [r5.1] at hlt
      exact lv_astore_n M.1 M.2.1 (lk_ok (dc_ok y hy) hk) rfl r5.has hlt rfl (fun ls' hl => kk H locs cells slots ls' ρ ⟨r1, r2, r3, r4, r5.drop hl, fun v hv => (by cases hv), r7, r8⟩)
    · cases ha
  · cases ha
theorem snd_all : ∀ n, Snd n := by
  intro n
  induction n with
  | zero => intro y pc L S h o hr; cases hr
  | succ n ih =>
    intro y pc L S h o hr p l e R s m args below meth c Q g base ρ0 n0 c0 s0 M C hRc hRs hend hout
    unfold run at hr
    cases hs : stp y pc L S h with
    | none => rw [hs] at hr; cases hr
    | some a =>
      rw [hs] at hr
      simp only [Option.bind_some] at hr
      rcases a with ⟨pc', L', S', h'⟩ | o1 | ⟨k, As, pc', L', S', h'⟩
      · have h1 := run_le3 n hr
        refine step M C hs ?_ ?_ ?_
        · show h'.2.1 ≤ _
          have := h1.2.1; omega
        · show h'.2.2.1 ≤ _
          have := h1.2.2; omega
        · exact ih y pc' L' S' h' o hr p l e R s m args below meth c Q g base ρ0 n0 c0 s0 M C hRc hRs hend hout
      · cases hr
        exact hend pc L S h hs
      · simp only at hr
        cases h1 : run n k 0 (entL k As) [] h' with
        | none => rw [h1] at hr; cases hr
        | some o1 =>
          rw [h1] at hr
          simp only [Option.bind_some] at hr
          have hroom : le3 o1.2 o.2 := by
            rcases o1 with ⟨v | E, h2⟩
            · exact run_le3 n hr
            · simp only at hr
              cases h3 : hnd (mHh y) pc E with
              | none => rw [h3] at hr; cases hr; exact le3_rf _
              | some hp =>
                rw [h3] at hr
                simp only at hr
                cases h4 : afterH y hp L' with
                | none => rw [h4] at hr; cases hr
                | some q => rw [h4] at hr; exact run_le3 n hr
          refine st_call M C ih hs h1 (by have := hroom.2.1; omega) (by have := hroom.2.2; omega) ?_ ?_
          · intro v hv
            obtain ⟨x, h2⟩ := o1
            have hv : x = .inl v := hv
            subst hv
            exact ih y pc' L' (v.toList ++ S') h2 o hr p l e R s m args below meth c Q g base ρ0 n0 c0 s0 M C hRc hRs hend hout
          · intro E hE H locs cells slots ls ρ q ce r hce hcv hcl
            obtain ⟨x, h2⟩ := o1
            have hE : x = .inr E := hE
            subst hE
            simp only at hr
            obtain ⟨i, hEi, hi⟩ := run_exc n h1
            cases h3 : hnd (mHh y) pc E with
            | none =>
              rw [h3] at hr
              cases hr
              exact hout E H locs cells slots pc ls (S'.map (rv ρ)) ρ q ce rfl r.1 r.2.1 r.2.2.1 r.2.2.2.1 r.2.2.2.2.2.2.1 r.2.2.2.2.2.2.2 hce hcv hcl h3 ⟨i, hEi, hi⟩
            | some hp =>
              rw [h3] at hr
              simp only at hr
              cases h4 : afterH y hp L' with
              | none => rw [h4] at hr; cases hr
              | some q2 =>
                rw [h4] at hr
                simp only [Option.bind_some] at hr
                have kk := ih y q2.1 q2.2 [] h2 o hr p l e R s m args below meth c Q g base ρ0 n0 c0 s0 M C hRc hRs hend hout
                have htab : c.exceptionTable.toList = tableOf (mHh y) := by
                  rcases M.2.2.2.2.2.2.1 with q9 | q9
                  · subst q9; exact absurd h3 (by rw [show mHh 152 = [] from rfl]; exact fun z => by cases z)
                  · exact q9
                obtain ⟨pre, x, suf, t1, t2, t3, t4, t5⟩ := hnd_some h3
                have hxm : x ∈ tableOf (mHh y) := by rw [t1]; exact List.mem_append_right _ List.mem_cons_self
                obtain ⟨e9, he9, hc9⟩ := table_mem hxm
                obtain ⟨g1, g2⟩ := hh_at M.2.2.2.2.2.2.2.2.2.2.2 he9
                rw [← hc9] at g1
                have hlk := cat_link x.catchType g1
                rw [t4] at hlk
                refine vx_catch (own := ownN (mOwn y)) (name := E) M.2.2.2.2.2.1 pre x suf (by rw [htab]; exact t1) (fun z hz => pass_of M C hEi hi (by rw [t1]; exact List.mem_append_left _ hz) (t2 z hz)) t3 (by omega) (by rw [g2]; exact C.word hlk.1 args) (C.wordW hlk.2 rfl args) hce hcv hcl ?_
                rw [t5]
                exact st_handler M h4 kk r q
end SOUND4
