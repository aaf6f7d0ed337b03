section CALLS
variable {p : Program} {l : Launch} {e : Env} {R : Room} {s : State} {m : MethodId} {args : Array Value} {below : List Frame} {meth : Method} {c : Code} {Q : State → Prop} {g : GG} {base y : Nat} {ρ0 : Nat → Nat} {n0 c0 s0 pc : Nat} {L : Lo} {S : List Value} {h : Hp}
theorem rv_default (ρ : Nat → Nat) (ty : FieldType) : rv ρ (defaultValue ty) = defaultValue ty := by cases ty <;> rfl
theorem okV_default (n : Nat) (ty : FieldType) : okV n (defaultValue ty) := by cases ty <;> trivial
theorem rE_blankO (g : GG) (ρ : Nat → Nat) (ci : Nat) : rE g ρ (blankO ci) = blankO ci := by
  unfold blankO
  show Sum.inr (ci, _) = Sum.inr (ci, _)
  rw [List.map_map]
  congr 2
  exact List.map_congr_left fun k _ => rv_default ρ _
theorem rl_push {H H1 : Heap} {locs : List Loc} {cells slots q k : Nat} {ls : Array Slot} {ρ : Nat → Nat} {x : va_E} (r : Rl s g base y ρ0 n0 c0 s0 L S h H locs cells slots ls ρ) (hx : okE h.1 x) (hP : va_P (gD g) vwCl (wl g ρ h ++ [(q, rE g ρ x)]) H1) (hD : va_D (fun q => base ≤ q) (wl g ρ h ++ [(q, rE g ρ x)])) (hS : va_S (fun q => base ≤ q) s.heap H1 locs) : Rl s g base y ρ0 n0 c0 s0 L (.ref h.1 :: S) (hnew h x k) H1 locs (cells + 1) (slots + k) ls (ext ρ h.1 q) := by
  obtain ⟨r1, r2, r3, r4, r5, r6, r7, r8⟩ := r
  refine ⟨hS, r2.push hx hP hD, fun j hj => by rw [ext_lt ρ h.1 q j (by omega)]; exact r3 j hj, Nat.le_succ_of_le r4, r5.ext (Nat.le_succ _) (ext_lt ρ h.1 q), okS_cons (Nat.lt_succ_self _) (fun w hw => okV_le (Nat.le_succ _) (r6 w hw)), ?_, ?_⟩
  · show cells + 1 + c0 = h.2.1 + 1; omega
  · show slots + k + s0 = h.2.2.1 + k; omega
theorem map_push {q : Nat} {ρ : Nat → Nat} (r6 : ∀ v ∈ S, okV h.1 v) : (Value.ref h.1 :: S).map (rv (ext ρ h.1 q)) = .ref q :: S.map (rv ρ) := by
  rw [List.map_cons, map_ext (ext_lt ρ h.1 q) r6]
  show Value.ref (ext ρ h.1 q h.1) :: _ = _
  simp [ext]
theorem st_new {k ci : Nat} (M : MX p l R s m meth c y) (C : CT base g s s.heap) (hd : decode (mCc y) pc = .ok (.new k, 3)) (hf : lk2 clnT (mOwn y) k = some ci) (hc : h.2.1 + 1 ≤ c0 + R.cells) (hs : h.2.2.1 + NC ci ≤ s0 + R.slots) (kk : WW p l e R s m args below meth c Q g base y ρ0 n0 c0 s0 (pc + 3) L (.ref h.1 :: S) (hnew h (blankO ci) (NC ci))) : WW p l e R s m args below meth c Q g base y ρ0 n0 c0 s0 pc L S h := by
  intro H locs cells slots ls ρ r
  obtain ⟨w1, w2, w3, w4⟩ := cln_ok _ (lk2_mem hf)
  obtain ⟨k1, k2, k3, k4⟩ := cls_ok ci w4
  have r7 : cells + c0 = h.2.1 := r.2.2.2.2.2.2.1
  have r8 : slots + s0 = h.2.2.1 := r.2.2.2.2.2.2.2
  have hA : ∀ q : Nat, s.heap.size ≤ q → (fun q => base ≤ q) q := fun q hq => Nat.le_trans C.2.1 hq
  have hok : okE h.1 (blankO ci) := by
    refine ⟨w4, fun v hv => ?_⟩
    obtain ⟨j, -, rfl⟩ := List.mem_map.mp hv
    exact okV_default _ _
  refine va_new (fs := (List.range (NC ci)).map (fun k => defaultValue (yC ci k))) M.1 M.2.1 (fun w hw => C.word hw args) k2 (yC ci) k4 M.2.2.2.2.2.1 (C.word w1 args) (C.word w2 args) (C.word w3 args) C.1 r.2.1.1 r.2.1.2.1 r.1 hA k1 (fun j hj => ?_) (by omega) (by omega) hd (fun q H1 hP hD hS => ?_)
  · unfold vp_V
    rw [List.getD_eq_getElem?_getD]
    simp [hj]
  · have hP' : va_P (gD g) vwCl (wl g ρ h ++ [(q, rE g ρ (blankO ci))]) H1 := by rw [rE_blankO]; exact hP
    have hD' : va_D (fun q => base ≤ q) (wl g ρ h ++ [(q, rE g ρ (blankO ci))]) := by rw [rE_blankO]; exact hD
    have := kk H1 locs (cells + 1) (slots + NC ci) ls (ext ρ h.1 q) (rl_push r hok hP' hD' hS)
    rwa [map_push r.2.2.2.2.2.1] at this
theorem cA_eq {H : Heap} {D : va_G} {cl : List vw_C} {T : List (ClassId × FieldType)} {cA : ClassId} {ty : FieldType} {g : GG} {t : Nat} {U : State} (hK : va_K D cl (T ++ [(cA, ty)]) U) (C : CT base g U H) (ht : t < 3) (hty : tyO t = ty) (hT : T.length = 3) : cA = gA g t := by
  have h1 := (hK.2 3 (cA, ty) (by rw [List.getElem?_append_right (by omega), hT]; rfl)).2
  have h2 := (C.1.2 t (gA g t, tyO t) (gT_at g ht)).2
  rw [hty] at h2
  cases ty with
  | object C0 =>
    obtain ⟨k1, k2, -, -, -, e1⟩ := h1
    obtain ⟨k3, k4, -, -, -, e2⟩ := h2
    exact Option.some.inj (e1.symm.trans e2)
  | _ => exact Option.some.inj (Eq.trans (Eq.symm h1) h2)
theorem st_newarray_int {N : Int32} (M : MX p l R s m meth c y) (C : CT base g s s.heap) (hd : decode (mCc y) pc = .ok (.newarray .int, 2)) (hN : ¬ N < 0 ∧ N.toNatClampNeg ≤ 60000) (hc : h.2.1 + 1 ≤ c0 + R.cells) (hs : h.2.2.1 + N.toNatClampNeg ≤ s0 + R.slots) (kk : WW p l e R s m args below meth c Q g base y ρ0 n0 c0 s0 (pc + 2) L (.ref h.1 :: S) (hnew h (blank0 0 N.toNatClampNeg) N.toNatClampNeg)) : WW p l e R s m args below meth c Q g base y ρ0 n0 c0 s0 pc L (.int N :: S) h := by
  intro H locs cells slots ls ρ r
  have r7 : cells + c0 = h.2.1 := r.2.2.2.2.2.2.1
  have r8 : slots + s0 = h.2.2.1 := r.2.2.2.2.2.2.2
  have hA : ∀ q : Nat, s.heap.size ≤ q → (fun q => base ≤ q) q := fun q hq => Nat.le_trans C.2.1 hq
  have hok : okE h.1 (blank0 0 N.toNatClampNeg) := ⟨Nat.le_of_ble_eq_true rfl, trivial⟩
  refine va_newa (atype := .int) (ty := .int) (a0 := (N.toNatClampNeg, .inl (fun _ => 0))) M.1 M.2.1 (C.wordW w_arr rfl args) rfl C.1 r.2.1.1 r.2.1.2.1 r.1 hA (fun cA => rfl) hN.1 rfl (by show N.toNatClampNeg * _ ≤ _; have := hN.2; simp only [componentBytes]; omega) (by omega) (by omega) hd (fun q cA H1 hK hP hD hS => ?_)
  have e := cA_eq (t := 0) hK C (Nat.le_of_ble_eq_true rfl) rfl rfl
  subst e
  have := kk H1 locs (cells + 1) (slots + N.toNatClampNeg) ls (ext ρ h.1 q) (rl_push (S := S) (L := L) (x := blank0 0 N.toNatClampNeg) ⟨r.1, r.2.1, r.2.2.1, r.2.2.2.1, r.2.2.2.2.1, okS_tl r.2.2.2.2.2.1, r7, r8⟩ hok hP hD hS)
  rwa [map_push (okS_tl r.2.2.2.2.2.1)] at this
theorem st_anewarray {N : Int32} {k t : Nat} (M : MX p l R s m meth c y) (C : CT base g s s.heap) (hd : decode (mCc y) pc = .ok (.anewarray k, 3)) (hf : lk2 arrT (mOwn y) k = some t) (hN : ¬ N < 0 ∧ N.toNatClampNeg ≤ 60000) (hc : h.2.1 + 1 ≤ c0 + R.cells) (hs : h.2.2.1 + N.toNatClampNeg ≤ s0 + R.slots) (kk : WW p l e R s m args below meth c Q g base y ρ0 n0 c0 s0 (pc + 3) L (.ref h.1 :: S) (hnew h (blank0 t N.toNatClampNeg) N.toNatClampNeg)) : WW p l e R s m args below meth c Q g base y ρ0 n0 c0 s0 pc L (.int N :: S) h := by
  intro H locs cells slots ls ρ r
  obtain ⟨w1, w2, w3⟩ := arr_ok _ (lk2_mem hf)
  have w3 : t = 1 ∨ t = 2 := w3
  have r7 : cells + c0 = h.2.1 := r.2.2.2.2.2.2.1
  have r8 : slots + s0 = h.2.2.1 := r.2.2.2.2.2.2.2
  have hA : ∀ q : Nat, s.heap.size ≤ q → (fun q => base ≤ q) q := fun q hq => Nat.le_trans C.2.1 hq
  have eb : blank0 t N.toNatClampNeg = .inl (t, N.toNatClampNeg, .inr (.inr (.inr (.inr (fun _ => none))))) := by rcases w3 with rfl | rfl <;> rfl
  have hok : okE h.1 (blank0 t N.toNatClampNeg) := by
    rw [eb]
    have ht5 : t < 3 := by omega
    exact ⟨ht5, fun i k hk => by cases hk⟩
  refine va_newq (C := arN t) M.1 M.2.1 M.2.2.2.2.2.1 (C.word w1 args) (C.2.2.2.2.2.2.2.2.1 t w3) C.1 r.2.1.1 r.2.1.2.1 r.1 hA hN.1 rfl (by have := hN.2; omega) (by omega) (by omega) hd (fun q cA H1 hK hP hD hS => ?_)
  have e := cA_eq (t := t) hK C (by omega) (by rcases w3 with rfl | rfl <;> rfl) rfl
  subst e
  have eE : rE g ρ (blank0 t N.toNatClampNeg) = .inl (gA g t, N.toNatClampNeg, .inr (.inr (.inr (.inr (fun _ => none))))) := by rw [eb]; rfl
  have := kk H1 locs (cells + 1) (slots + N.toNatClampNeg) ls (ext ρ h.1 q) (rl_push (S := S) (L := L) (x := blank0 t N.toNatClampNeg) ⟨r.1, r.2.1, r.2.2.1, r.2.2.2.1, r.2.2.2.2.1, okS_tl r.2.2.2.2.2.1, r7, r8⟩ hok (by rw [eE]; exact hP) (by rw [eE]; exact hD) hS)
  rwa [map_push (okS_tl r.2.2.2.2.2.1)] at this
theorem st_objInit {k a c1 : Nat} (M : MX p l R s m meth c y) (C : CT base g s s.heap) (hd : decode (mCc y) pc = .ok (.invokespecial k, 3)) (hf : lk2 calT (mOwn y) k = some (9, c1)) (hF : 1 ≤ mF y) (hL : csum S + 12 ≤ mL y) (kk : WW p l e R s m args below meth c Q g base y ρ0 n0 c0 s0 (pc + 3) L S h) : WW p l e R s m args below meth c Q g base y ρ0 n0 c0 s0 pc L (.ref a :: S) h := by
  intro H locs cells slots ls ρ r
  obtain ⟨r1, r2, r3, r4, r5, r6, r7, r8⟩ := r
  have w1 : Cond.methodLink (ownN (mOwn y)) k Lib.objectInit ∈ Wg := cal_ok _ (lk2_mem hf)
  have hRl := M.2.2.2.2.2.2.2.2.2.2.1
  refine W.objInit M.1 M.2.1 M.2.2.2.2.2.1 (C.word w1 args) (C.word w_init.1 args) (C.word w_init.2 args) rfl (by show ls.size = _; rw [r5.2.1, M.2.2.2.2.1]) rfl hd (Nat.le_trans hF M.2.2.2.2.2.2.2.2.2.1) ?_ (kk H locs cells slots ls ρ ⟨r1, r2, r3, r4, r5, okS_tl r6, r7, r8⟩)
  show 2 * 0 + ((S.map (rv ρ)).map fun v => v.category).sum + 12 ≤ _
  rw [csum_map]
  omega
theorem cpI_at {h h1 : Hp} {a0 a1 : Nat} {sp dp z : Int32} (hg : cpI h a0 sp a1 dp z = some h1) : ∃ (n0 n1 : Nat) (f f1 : Nat → Int32), h.2.2.2 a0 = .inl (0, n0, .inl f) ∧ h.2.2.2 a1 = .inl (0, n1, .inl f1) ∧ (3 ≤ a0 ∧ 3 ≤ a1) ∧ (¬ sp < 0 ∧ ¬ dp < 0 ∧ ¬ z < 0) ∧ sp.toNatClampNeg + z.toNatClampNeg ≤ n0 ∧ dp.toNatClampNeg + z.toNatClampNeg ≤ n1 ∧ h1 = hset h a1 (.inl (0, n1, .inl (va_cpy f f1 sp.toNatClampNeg dp.toNatClampNeg z.toNatClampNeg))) := by
  unfold cpI at hg
  split at hg
  · next t0 n0 f t1 n1 f1 e0 e1 =>
    split at hg
    · next q =>
      obtain ⟨⟨rfl, rfl, q3, q4⟩, q5, q6, q7⟩ := q
      exact ⟨n0, n1, f, f1, e0, e1, ⟨q3, q4⟩, q5, q6, q7, (Option.some.inj hg).symm⟩
    · cases hg
  · cases hg
theorem st_copy {k a0 a1 c1 : Nat} {sp dp z : Int32} {h1 : Hp} (M : MX p l R s m meth c y) (C : CT base g s s.heap) (hd : decode (mCc y) pc = .ok (.invokestatic k, 3)) (hf : lk2 calT (mOwn y) k = some (8, c1)) (hF : 1 ≤ mF y) (hL : csum S + 18 ≤ mL y) (hg : cpI h a0 sp a1 dp z = some h1) (kk : WW p l e R s m args below meth c Q g base y ρ0 n0 c0 s0 (pc + 3) L S h1) : WW p l e R s m args below meth c Q g base y ρ0 n0 c0 s0 pc L (.int z :: .int dp :: .ref a1 :: .int sp :: .ref a0 :: S) h := by
  intro H locs cells slots ls ρ r
  obtain ⟨r1, r2, r3, r4, r5, r6, r7, r8⟩ := r
  have w1 : Cond.methodLink (ownN (mOwn y)) k arraycopyName ∈ Wg := cal_ok _ (lk2_mem hf)
  obtain ⟨n0', n1', f, f1, e0, e1, h3, hp, b0, b1, rfl⟩ := cpI_at hg
  have hRl := M.2.2.2.2.2.2.2.2.2.2.1
  have ha1 : a1 < h.1 := okS_hd (okS_tl (okS_tl r6))
  have ha0 : a0 < h.1 := okS_hd (okS_tl (okS_tl (okS_tl (okS_tl r6))))
  have he0 : (wl g ρ h)[a0 - 3]? = some (ρ a0, .inl (gA g 0, n0', .inl f)) := by rw [wl_at g ρ h h3.1 ha0, e0]; rfl
  have he1 : (wl g ρ h)[a1 - 3]? = some (ρ a1, .inl (gA g 0, n1', .inl f1)) := by rw [wl_at g ρ h h3.2 ha1, e1]; rfl
  have r6' := okS_tl (okS_tl (okS_tl (okS_tl (okS_tl r6))))
  refine va_copyi M.1 M.2.1 (by rw [r5.2.1, M.2.2.2.2.1]) M.2.2.2.2.2.1 (C.word w1 args) (C.word w_copy.1 args) (C.word w_copy.2.1 args) (C.word w_copy.2.2 args) C.1 r2.1 r2.2.1 r1 (a0 - 3) (a1 - 3) 0 0 he0 he1 (gT_at g (Nat.le_of_ble_eq_true rfl)) (gT_at g (Nat.le_of_ble_eq_true rfl)) rfl hp.1 hp.2.1 hp.2.2 b0 b1 (fun _ _ => rfl) (Nat.le_trans hF M.2.2.2.2.2.2.2.2.2.1) ?_ hd (fun H1 locs1 hP hD hS => kk H1 locs1 cells slots ls ρ ⟨hS, r2.set h3.2 ⟨Nat.le_of_ble_eq_true rfl, trivial⟩ hP hD, r3, r4, r5, r6', r7, r8⟩)
  rw [csum_map]
  show csum S + (7 + 11) ≤ _
  omega
end CALLS
