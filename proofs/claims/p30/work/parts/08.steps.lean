section STEPS
variable {p : Program} {l : Launch} {e : Env} {R : Room} {s : State} {m : MethodId} {args : Array Value} {below : List Frame} {meth : Method} {c : Code} {Q : State → Prop} {g : GG} {base y : Nat} {ρ0 : Nat → Nat} {n0 c0 s0 pc : Nat} {L : Lo} {S : List Value} {h : Hp}
theorem okS_cons {n : Nat} {v : Value} {S : List Value} (hv : okV n v) (h : ∀ w ∈ S, okV n w) : ∀ w ∈ v :: S, okV n w := List.forall_mem_cons.mpr ⟨hv, h⟩
theorem okS_tl {n : Nat} {v : Value} {S : List Value} (h : ∀ w ∈ v :: S, okV n w) : ∀ w ∈ S, okV n w := (List.forall_mem_cons.mp h).2
theorem okS_hd {n : Nat} {v : Value} {S : List Value} (h : ∀ w ∈ v :: S, okV n w) : okV n v := (List.forall_mem_cons.mp h).1
theorem st_aload {k : Nat} {a : Nat} (M : MX p l R s m meth c y) (hd : decode (mCc y) pc = .ok (.aload k, 2)) (hl : lget L k = some (.ref a)) (kk : WW p l e R s m args below meth c Q g base y ρ0 n0 c0 s0 (pc + 2) L (.ref a :: S) h) : WW p l e R s m args below meth c Q g base y ρ0 n0 c0 s0 pc L S h := by
  intro H locs cells slots ls ρ r
  obtain ⟨r1, r2, r3, r4, r5, r6, r7, r8⟩ := r
  have h1 := r5.2.2.2 k _ (lget_at hl)
  exact lv_aload M.1 M.2.1 hd h1.2 (kk H locs cells slots ls ρ ⟨r1, r2, r3, r4, r5, okS_cons h1.1 r6, r7, r8⟩)
theorem st_iload {k : Nat} {a : Int32} (M : MX p l R s m meth c y) (hd : decode (mCc y) pc = .ok (.iload k, 2)) (hl : lget L k = some (.int a)) (kk : WW p l e R s m args below meth c Q g base y ρ0 n0 c0 s0 (pc + 2) L (.int a :: S) h) : WW p l e R s m args below meth c Q g base y ρ0 n0 c0 s0 pc L S h := by
  intro H locs cells slots ls ρ r
  obtain ⟨r1, r2, r3, r4, r5, r6, r7, r8⟩ := r
  have h1 := r5.2.2.2 k _ (lget_at hl)
  exact lv_iload M.1 M.2.1 hd h1.2 (kk H locs cells slots ls ρ ⟨r1, r2, r3, r4, r5, okS_cons h1.1 r6, r7, r8⟩)
theorem st_dload {k : Nat} {a : UInt64} (M : MX p l R s m meth c y) (hd : decode (mCc y) pc = .ok (.dload k, 2)) (hl : lget L k = some (.double a)) (kk : WW p l e R s m args below meth c Q g base y ρ0 n0 c0 s0 (pc + 2) L (.double a :: S) h) : WW p l e R s m args below meth c Q g base y ρ0 n0 c0 s0 pc L S h := by
  intro H locs cells slots ls ρ r
  obtain ⟨r1, r2, r3, r4, r5, r6, r7, r8⟩ := r
  have h1 := r5.2.2.2 k _ (lget_at hl)
  exact lv_dload M.1 M.2.1 hd h1.2 (kk H locs cells slots ls ρ ⟨r1, r2, r3, r4, r5, okS_cons h1.1 r6, r7, r8⟩)
theorem st_aload_n {k : Fin 4} {a : Nat} (M : MX p l R s m meth c y) (hd : decode (mCc y) pc = .ok (.aload_n k, 1)) (hl : lget L k.val = some (.ref a)) (kk : WW p l e R s m args below meth c Q g base y ρ0 n0 c0 s0 (pc + 1) L (.ref a :: S) h) : WW p l e R s m args below meth c Q g base y ρ0 n0 c0 s0 pc L S h := by
  intro H locs cells slots ls ρ r
  obtain ⟨r1, r2, r3, r4, r5, r6, r7, r8⟩ := r
  have h1 := r5.2.2.2 k.val _ (lget_at hl)
  exact lv_aload_n M.1 M.2.1 hd rfl h1.2 (kk H locs cells slots ls ρ ⟨r1, r2, r3, r4, r5, okS_cons h1.1 r6, r7, r8⟩)
theorem st_iload_n {k : Fin 4} {a : Int32} (M : MX p l R s m meth c y) (hd : decode (mCc y) pc = .ok (.iload_n k, 1)) (hl : lget L k.val = some (.int a)) (kk : WW p l e R s m args below meth c Q g base y ρ0 n0 c0 s0 (pc + 1) L (.int a :: S) h) : WW p l e R s m args below meth c Q g base y ρ0 n0 c0 s0 pc L S h := by
  intro H locs cells slots ls ρ r
  obtain ⟨r1, r2, r3, r4, r5, r6, r7, r8⟩ := r
  have h1 := r5.2.2.2 k.val _ (lget_at hl)
  exact lv_iload_n M.1 M.2.1 hd rfl h1.2 (kk H locs cells slots ls ρ ⟨r1, r2, r3, r4, r5, okS_cons h1.1 r6, r7, r8⟩)
theorem st_lload_n {k : Fin 4} {a : Int64} (M : MX p l R s m meth c y) (hd : decode (mCc y) pc = .ok (.lload_n k, 1)) (hl : lget L k.val = some (.long a)) (kk : WW p l e R s m args below meth c Q g base y ρ0 n0 c0 s0 (pc + 1) L (.long a :: S) h) : WW p l e R s m args below meth c Q g base y ρ0 n0 c0 s0 pc L S h := by
  intro H locs cells slots ls ρ r
  obtain ⟨r1, r2, r3, r4, r5, r6, r7, r8⟩ := r
  have h1 := r5.2.2.2 k.val _ (lget_at hl)
  exact lv_lload_n M.1 M.2.1 hd rfl h1.2 (kk H locs cells slots ls ρ ⟨r1, r2, r3, r4, r5, okS_cons h1.1 r6, r7, r8⟩)
theorem st_istore {k : Nat} {a : Int32} (M : MX p l R s m meth c y) (hd : decode (mCc y) pc = .ok (.istore k, 2)) (hk : k < L.length) (kk : WW p l e R s m args below meth c Q g base y ρ0 n0 c0 s0 (pc + 2) (lst1 k L (.int a)) S h) : WW p l e R s m args below meth c Q g base y ρ0 n0 c0 s0 pc L (.int a :: S) h := by
  intro H locs cells slots ls ρ r
  obtain ⟨r1, r2, r3, r4, r5, r6, r7, r8⟩ := r
  rw [r5.1] at hk
  exact lv_istore M.1 M.2.1 hd r5.has hk rfl (fun ls' hl => kk H locs cells slots ls' ρ ⟨r1, r2, r3, r4, r5.put1 (okS_hd r6) hl, okS_tl r6, r7, r8⟩)
theorem st_istore_n {k : Fin 4} {a : Int32} (M : MX p l R s m meth c y) (hd : decode (mCc y) pc = .ok (.istore_n k, 1)) (hk : k.val < L.length) (kk : WW p l e R s m args below meth c Q g base y ρ0 n0 c0 s0 (pc + 1) (lst1 k.val L (.int a)) S h) : WW p l e R s m args below meth c Q g base y ρ0 n0 c0 s0 pc L (.int a :: S) h := by
  intro H locs cells slots ls ρ r
  obtain ⟨r1, r2, r3, r4, r5, r6, r7, r8⟩ := r
  rw [r5.1] at hk
  exact lv_istore_n M.1 M.2.1 hd rfl r5.has hk rfl (fun ls' hl => kk H locs cells slots ls' ρ ⟨r1, r2, r3, r4, r5.put1 (okS_hd r6) hl, okS_tl r6, r7, r8⟩)
theorem st_astore {k : Nat} {a : Nat} (M : MX p l R s m meth c y) (hd : decode (mCc y) pc = .ok (.astore k, 2)) (hk : k < L.length) (kk : WW p l e R s m args below meth c Q g base y ρ0 n0 c0 s0 (pc + 2) (lst1 k L (.ref a)) S h) : WW p l e R s m args below meth c Q g base y ρ0 n0 c0 s0 pc L (.ref a :: S) h := by
  intro H locs cells slots ls ρ r
  obtain ⟨r1, r2, r3, r4, r5, r6, r7, r8⟩ := r
  rw [r5.1] at hk
  exact lv_astore M.1 M.2.1 hd r5.has hk rfl (fun ls' hl => kk H locs cells slots ls' ρ ⟨r1, r2, r3, r4, r5.put1 (okS_hd r6) hl, okS_tl r6, r7, r8⟩)
theorem st_astore_n {k : Fin 4} {a : Nat} (M : MX p l R s m meth c y) (hd : decode (mCc y) pc = .ok (.astore_n k, 1)) (hk : k.val < L.length) (kk : WW p l e R s m args below meth c Q g base y ρ0 n0 c0 s0 (pc + 1) (lst1 k.val L (.ref a)) S h) : WW p l e R s m args below meth c Q g base y ρ0 n0 c0 s0 pc L (.ref a :: S) h := by
  intro H locs cells slots ls ρ r
  obtain ⟨r1, r2, r3, r4, r5, r6, r7, r8⟩ := r
  rw [r5.1] at hk
  exact lv_astore_n M.1 M.2.1 hd rfl r5.has hk rfl (fun ls' hl => kk H locs cells slots ls' ρ ⟨r1, r2, r3, r4, r5.put1 (okS_hd r6) hl, okS_tl r6, r7, r8⟩)
theorem st_lstore_n {k : Fin 4} {a : Int64} (M : MX p l R s m meth c y) (hd : decode (mCc y) pc = .ok (.lstore_n k, 1)) (hk : k.val + 1 < L.length) (kk : WW p l e R s m args below meth c Q g base y ρ0 n0 c0 s0 (pc + 1) (lst2 k.val L (.long a)) S h) : WW p l e R s m args below meth c Q g base y ρ0 n0 c0 s0 pc L (.long a :: S) h := by
  intro H locs cells slots ls ρ r
  obtain ⟨r1, r2, r3, r4, r5, r6, r7, r8⟩ := r
  rw [r5.1] at hk
  exact lv_lstore_n M.1 M.2.1 hd rfl r5.has hk rfl (fun ls' hl => kk H locs cells slots ls' ρ ⟨r1, r2, r3, r4, r5.put2 (okS_hd r6) hl, okS_tl r6, r7, r8⟩)
theorem st_dstore {k : Nat} {a : UInt64} (M : MX p l R s m meth c y) (hd : decode (mCc y) pc = .ok (.dstore k, 2)) (hk : k + 1 < L.length) (kk : WW p l e R s m args below meth c Q g base y ρ0 n0 c0 s0 (pc + 2) (lst2 k L (.double a)) S h) : WW p l e R s m args below meth c Q g base y ρ0 n0 c0 s0 pc L (.double a :: S) h := by
  intro H locs cells slots ls ρ r
  obtain ⟨r1, r2, r3, r4, r5, r6, r7, r8⟩ := r
  rw [r5.1] at hk
  exact lv_dstore M.1 M.2.1 hd r5.has hk rfl (fun ls' hl => kk H locs cells slots ls' ρ ⟨r1, r2, r3, r4, r5.put2 (okS_hd r6) hl, okS_tl r6, r7, r8⟩)
theorem st_iinc {k : Nat} {d : Int} {a : Int32} (M : MX p l R s m meth c y) (hd : decode (mCc y) pc = .ok (.iinc k d, 3)) (hl : lget L k = some (.int a)) (kk : WW p l e R s m args below meth c Q g base y ρ0 n0 c0 s0 (pc + 3) (L.set k (some (.int (a + Int32.ofInt d)))) S h) : WW p l e R s m args below meth c Q g base y ρ0 n0 c0 s0 pc L S h := by
  intro H locs cells slots ls ρ r
  obtain ⟨r1, r2, r3, r4, r5, r6, r7, r8⟩ := r
  have h0 := lget_at hl
  have hk : k < mMax y := by rw [← r5.1]; exact (List.getElem?_eq_some_iff.mp h0).1
  obtain ⟨i, hi⟩ := List.getElem?_of_mem (lvl_mem (ρ := ρ) h0)
  exact lv_iinc M.1 M.2.1 hd r5.has hi rfl hk rfl (fun ls' hl => kk H locs cells slots ls' ρ ⟨r1, r2, r3, r4, r5.inc h0 hl, r6, r7, r8⟩)
theorem st_iconst {d : Int} (M : MX p l R s m meth c y) (hd : decode (mCc y) pc = .ok (.iconst d, 1)) (kk : WW p l e R s m args below meth c Q g base y ρ0 n0 c0 s0 (pc + 1) L (.int (Int32.ofInt d) :: S) h) : WW p l e R s m args below meth c Q g base y ρ0 n0 c0 s0 pc L S h := by
  intro H locs cells slots ls ρ r
  obtain ⟨r1, r2, r3, r4, r5, r6, r7, r8⟩ := r
  exact lv_iconst M.1 M.2.1 hd rfl (kk H locs cells slots ls ρ ⟨r1, r2, r3, r4, r5, okS_cons trivial r6, r7, r8⟩)
theorem st_bipush {d : Int} (M : MX p l R s m meth c y) (hd : decode (mCc y) pc = .ok (.bipush d, 2)) (kk : WW p l e R s m args below meth c Q g base y ρ0 n0 c0 s0 (pc + 2) L (.int ((Int8.ofInt d).toInt32) :: S) h) : WW p l e R s m args below meth c Q g base y ρ0 n0 c0 s0 pc L S h := by
  intro H locs cells slots ls ρ r
  obtain ⟨r1, r2, r3, r4, r5, r6, r7, r8⟩ := r
  exact lv_bipush M.1 M.2.1 hd rfl (kk H locs cells slots ls ρ ⟨r1, r2, r3, r4, r5, okS_cons trivial r6, r7, r8⟩)
theorem st_sipush {d : Int} (M : MX p l R s m meth c y) (hd : decode (mCc y) pc = .ok (.sipush d, 3)) (kk : WW p l e R s m args below meth c Q g base y ρ0 n0 c0 s0 (pc + 3) L (.int ((Int16.ofInt d).toInt32) :: S) h) : WW p l e R s m args below meth c Q g base y ρ0 n0 c0 s0 pc L S h := by
  intro H locs cells slots ls ρ r
  obtain ⟨r1, r2, r3, r4, r5, r6, r7, r8⟩ := r
  exact lv_sipush M.1 M.2.1 hd rfl (kk H locs cells slots ls ρ ⟨r1, r2, r3, r4, r5, okS_cons trivial r6, r7, r8⟩)
theorem st_dconst0  (M : MX p l R s m meth c y) (hd : decode (mCc y) pc = .ok (.dconst 0, 1)) (kk : WW p l e R s m args below meth c Q g base y ρ0 n0 c0 s0 (pc + 1) L (.double FP.dconst0 :: S) h) : WW p l e R s m args below meth c Q g base y ρ0 n0 c0 s0 pc L S h := by
  intro H locs cells slots ls ρ r
  obtain ⟨r1, r2, r3, r4, r5, r6, r7, r8⟩ := r
  exact lv_dconst0 M.1 M.2.1 hd (kk H locs cells slots ls ρ ⟨r1, r2, r3, r4, r5, okS_cons trivial r6, r7, r8⟩)
theorem st_dconst1  (M : MX p l R s m meth c y) (hd : decode (mCc y) pc = .ok (.dconst 1, 1)) (kk : WW p l e R s m args below meth c Q g base y ρ0 n0 c0 s0 (pc + 1) L (.double FP.dconst1 :: S) h) : WW p l e R s m args below meth c Q g base y ρ0 n0 c0 s0 pc L S h := by
  intro H locs cells slots ls ρ r
  obtain ⟨r1, r2, r3, r4, r5, r6, r7, r8⟩ := r
  exact lv_dconst1 M.1 M.2.1 hd (kk H locs cells slots ls ρ ⟨r1, r2, r3, r4, r5, okS_cons trivial r6, r7, r8⟩)
theorem st_ldci {k : Nat} {v : Int32} (M : MX p l R s m meth c y) (C : CT base g s s.heap) (hd : decode (mCc y) pc = .ok (.ldc k, 2)) (hl : lk2 conT (mOwn y) k = some (.int v)) (kk : WW p l e R s m args below meth c Q g base y ρ0 n0 c0 s0 (pc + 2) L (.int v :: S) h) : WW p l e R s m args below meth c Q g base y ρ0 n0 c0 s0 pc L S h := by
  intro H locs cells slots ls ρ r
  obtain ⟨r1, r2, r3, r4, r5, r6, r7, r8⟩ := r
  exact lv_ldc M.1 M.2.1 M.2.2.2.2.2.1 (C.word (con_ok _ (lk2_mem hl)) args) hd (kk H locs cells slots ls ρ ⟨r1, r2, r3, r4, r5, okS_cons trivial r6, r7, r8⟩)
theorem st_ldc2 {k : Nat} {v : Int64} (M : MX p l R s m meth c y) (C : CT base g s s.heap) (hd : decode (mCc y) pc = .ok (.ldc2_w k, 3)) (hl : lk2 conT (mOwn y) k = some (.long v)) (kk : WW p l e R s m args below meth c Q g base y ρ0 n0 c0 s0 (pc + 3) L (.long v :: S) h) : WW p l e R s m args below meth c Q g base y ρ0 n0 c0 s0 pc L S h := by
  intro H locs cells slots ls ρ r
  obtain ⟨r1, r2, r3, r4, r5, r6, r7, r8⟩ := r
  exact lv_ldc2 M.1 M.2.1 M.2.2.2.2.2.1 (C.word (con_ok _ (lk2_mem hl)) args) hd (kk H locs cells slots ls ρ ⟨r1, r2, r3, r4, r5, okS_cons trivial r6, r7, r8⟩)
theorem st_ldc2d {k : Nat} {v : UInt64} (M : MX p l R s m meth c y) (C : CT base g s s.heap) (hd : decode (mCc y) pc = .ok (.ldc2_w k, 3)) (hl : lk2 conT (mOwn y) k = some (.double v)) (kk : WW p l e R s m args below meth c Q g base y ρ0 n0 c0 s0 (pc + 3) L (.double v :: S) h) : WW p l e R s m args below meth c Q g base y ρ0 n0 c0 s0 pc L S h := by
  intro H locs cells slots ls ρ r
  obtain ⟨r1, r2, r3, r4, r5, r6, r7, r8⟩ := r
  exact lv_ldc2d M.1 M.2.1 M.2.2.2.2.2.1 (C.word (con_ok _ (lk2_mem hl)) args) hd (kk H locs cells slots ls ρ ⟨r1, r2, r3, r4, r5, okS_cons trivial r6, r7, r8⟩)
theorem st_dup {v : Value} (M : MX p l R s m meth c y) (hd : decode (mCc y) pc = .ok (.dup, 1)) (hv : v.category = 1) (kk : WW p l e R s m args below meth c Q g base y ρ0 n0 c0 s0 (pc + 1) L (v :: v :: S) h) : WW p l e R s m args below meth c Q g base y ρ0 n0 c0 s0 pc L (v :: S) h := by
  intro H locs cells slots ls ρ r
  obtain ⟨r1, r2, r3, r4, r5, r6, r7, r8⟩ := r
  exact lv_dup M.1 M.2.1 hd ((cat_rv ρ v).trans hv) (kk H locs cells slots ls ρ ⟨r1, r2, r3, r4, r5, okS_cons (okS_hd r6) r6, r7, r8⟩)
theorem st_dup2 {v w : Value} (M : MX p l R s m meth c y) (hd : decode (mCc y) pc = .ok (.dup2, 1)) (hv : v.category = 1) (hw : w.category = 1) (kk : WW p l e R s m args below meth c Q g base y ρ0 n0 c0 s0 (pc + 1) L (v :: w :: v :: w :: S) h) : WW p l e R s m args below meth c Q g base y ρ0 n0 c0 s0 pc L (v :: w :: S) h := by
  intro H locs cells slots ls ρ r
  obtain ⟨r1, r2, r3, r4, r5, r6, r7, r8⟩ := r
  exact lv_dup2_11 M.1 M.2.1 hd ((cat_rv ρ v).trans hv) ((cat_rv ρ w).trans hw) (kk H locs cells slots ls ρ ⟨r1, r2, r3, r4, r5, okS_cons (okS_hd r6) (okS_cons (okS_hd (okS_tl r6)) r6), r7, r8⟩)
theorem st_pop {v : Value} (M : MX p l R s m meth c y) (hd : decode (mCc y) pc = .ok (.pop, 1)) (hv : v.category = 1) (kk : WW p l e R s m args below meth c Q g base y ρ0 n0 c0 s0 (pc + 1) L S h) : WW p l e R s m args below meth c Q g base y ρ0 n0 c0 s0 pc L (v :: S) h := by
  intro H locs cells slots ls ρ r
  obtain ⟨r1, r2, r3, r4, r5, r6, r7, r8⟩ := r
  exact lv_pop M.1 M.2.1 hd ((cat_rv ρ v).trans hv) (kk H locs cells slots ls ρ ⟨r1, r2, r3, r4, r5, okS_tl r6, r7, r8⟩)
theorem st_iadd {x z : Int32} (M : MX p l R s m meth c y) (hd : decode (mCc y) pc = .ok (.iadd, 1))  (kk : WW p l e R s m args below meth c Q g base y ρ0 n0 c0 s0 (pc + 1) L (.int (x + z) :: S) h) : WW p l e R s m args below meth c Q g base y ρ0 n0 c0 s0 pc L (.int z :: .int x :: S) h := by
  intro H locs cells slots ls ρ r
  obtain ⟨r1, r2, r3, r4, r5, r6, r7, r8⟩ := r
  exact lv_iadd M.1 M.2.1 hd (kk H locs cells slots ls ρ ⟨r1, r2, r3, r4, r5, okS_cons trivial (okS_tl (okS_tl r6)), r7, r8⟩)
theorem st_isub {x z : Int32} (M : MX p l R s m meth c y) (hd : decode (mCc y) pc = .ok (.isub, 1))  (kk : WW p l e R s m args below meth c Q g base y ρ0 n0 c0 s0 (pc + 1) L (.int (x - z) :: S) h) : WW p l e R s m args below meth c Q g base y ρ0 n0 c0 s0 pc L (.int z :: .int x :: S) h := by
  intro H locs cells slots ls ρ r
  obtain ⟨r1, r2, r3, r4, r5, r6, r7, r8⟩ := r
  exact lv_isub M.1 M.2.1 hd (kk H locs cells slots ls ρ ⟨r1, r2, r3, r4, r5, okS_cons trivial (okS_tl (okS_tl r6)), r7, r8⟩)
theorem st_imul {x z : Int32} (M : MX p l R s m meth c y) (hd : decode (mCc y) pc = .ok (.imul, 1))  (kk : WW p l e R s m args below meth c Q g base y ρ0 n0 c0 s0 (pc + 1) L (.int (x * z) :: S) h) : WW p l e R s m args below meth c Q g base y ρ0 n0 c0 s0 pc L (.int z :: .int x :: S) h := by
  intro H locs cells slots ls ρ r
  obtain ⟨r1, r2, r3, r4, r5, r6, r7, r8⟩ := r
  exact lv_imul M.1 M.2.1 hd (kk H locs cells slots ls ρ ⟨r1, r2, r3, r4, r5, okS_cons trivial (okS_tl (okS_tl r6)), r7, r8⟩)
theorem st_idiv {x z : Int32} (M : MX p l R s m meth c y) (hd : decode (mCc y) pc = .ok (.idiv, 1)) (hz : ¬ z = 0) (kk : WW p l e R s m args below meth c Q g base y ρ0 n0 c0 s0 (pc + 1) L (.int (x / z) :: S) h) : WW p l e R s m args below meth c Q g base y ρ0 n0 c0 s0 pc L (.int z :: .int x :: S) h := by
  intro H locs cells slots ls ρ r
  obtain ⟨r1, r2, r3, r4, r5, r6, r7, r8⟩ := r
  exact lv_idiv M.1 M.2.1 hd hz (kk H locs cells slots ls ρ ⟨r1, r2, r3, r4, r5, okS_cons trivial (okS_tl (okS_tl r6)), r7, r8⟩)
theorem st_irem {x z : Int32} (M : MX p l R s m meth c y) (hd : decode (mCc y) pc = .ok (.irem, 1)) (hz : ¬ z = 0) (kk : WW p l e R s m args below meth c Q g base y ρ0 n0 c0 s0 (pc + 1) L (.int (x - x / z * z) :: S) h) : WW p l e R s m args below meth c Q g base y ρ0 n0 c0 s0 pc L (.int z :: .int x :: S) h := by
  intro H locs cells slots ls ρ r
  obtain ⟨r1, r2, r3, r4, r5, r6, r7, r8⟩ := r
  exact lv_irem M.1 M.2.1 hd hz (kk H locs cells slots ls ρ ⟨r1, r2, r3, r4, r5, okS_cons trivial (okS_tl (okS_tl r6)), r7, r8⟩)
theorem st_iand {x z : Int32} (M : MX p l R s m meth c y) (hd : decode (mCc y) pc = .ok (.iand, 1))  (kk : WW p l e R s m args below meth c Q g base y ρ0 n0 c0 s0 (pc + 1) L (.int (x &&& z) :: S) h) : WW p l e R s m args below meth c Q g base y ρ0 n0 c0 s0 pc L (.int z :: .int x :: S) h := by
  intro H locs cells slots ls ρ r
  obtain ⟨r1, r2, r3, r4, r5, r6, r7, r8⟩ := r
  exact lv_iand M.1 M.2.1 hd (kk H locs cells slots ls ρ ⟨r1, r2, r3, r4, r5, okS_cons trivial (okS_tl (okS_tl r6)), r7, r8⟩)
theorem st_ior {x z : Int32} (M : MX p l R s m meth c y) (hd : decode (mCc y) pc = .ok (.ior, 1))  (kk : WW p l e R s m args below meth c Q g base y ρ0 n0 c0 s0 (pc + 1) L (.int (x ||| z) :: S) h) : WW p l e R s m args below meth c Q g base y ρ0 n0 c0 s0 pc L (.int z :: .int x :: S) h := by
  intro H locs cells slots ls ρ r
  obtain ⟨r1, r2, r3, r4, r5, r6, r7, r8⟩ := r
  exact lv_ior M.1 M.2.1 hd (kk H locs cells slots ls ρ ⟨r1, r2, r3, r4, r5, okS_cons trivial (okS_tl (okS_tl r6)), r7, r8⟩)
theorem st_ixor {x z : Int32} (M : MX p l R s m meth c y) (hd : decode (mCc y) pc = .ok (.ixor, 1))  (kk : WW p l e R s m args below meth c Q g base y ρ0 n0 c0 s0 (pc + 1) L (.int (x ^^^ z) :: S) h) : WW p l e R s m args below meth c Q g base y ρ0 n0 c0 s0 pc L (.int z :: .int x :: S) h := by
  intro H locs cells slots ls ρ r
  obtain ⟨r1, r2, r3, r4, r5, r6, r7, r8⟩ := r
  exact lv_ixor M.1 M.2.1 hd (kk H locs cells slots ls ρ ⟨r1, r2, r3, r4, r5, okS_cons trivial (okS_tl (okS_tl r6)), r7, r8⟩)
theorem st_ishl {x z : Int32} (M : MX p l R s m meth c y) (hd : decode (mCc y) pc = .ok (.ishl, 1))  (kk : WW p l e R s m args below meth c Q g base y ρ0 n0 c0 s0 (pc + 1) L (.int (x <<< (z &&& 31)) :: S) h) : WW p l e R s m args below meth c Q g base y ρ0 n0 c0 s0 pc L (.int z :: .int x :: S) h := by
  intro H locs cells slots ls ρ r
  obtain ⟨r1, r2, r3, r4, r5, r6, r7, r8⟩ := r
  exact lv_ishl M.1 M.2.1 hd (kk H locs cells slots ls ρ ⟨r1, r2, r3, r4, r5, okS_cons trivial (okS_tl (okS_tl r6)), r7, r8⟩)
theorem st_ishr {x z : Int32} (M : MX p l R s m meth c y) (hd : decode (mCc y) pc = .ok (.ishr, 1))  (kk : WW p l e R s m args below meth c Q g base y ρ0 n0 c0 s0 (pc + 1) L (.int (x >>> (z &&& 31)) :: S) h) : WW p l e R s m args below meth c Q g base y ρ0 n0 c0 s0 pc L (.int z :: .int x :: S) h := by
  intro H locs cells slots ls ρ r
  obtain ⟨r1, r2, r3, r4, r5, r6, r7, r8⟩ := r
  exact lv_ishr M.1 M.2.1 hd (kk H locs cells slots ls ρ ⟨r1, r2, r3, r4, r5, okS_cons trivial (okS_tl (okS_tl r6)), r7, r8⟩)
theorem st_dadd {x z : UInt64} (M : MX p l R s m meth c y) (hd : decode (mCc y) pc = .ok (.dadd, 1)) (hz : vf_n64 (FP.dadd x z)) (kk : WW p l e R s m args below meth c Q g base y ρ0 n0 c0 s0 (pc + 1) L (.double (FP.dadd x z) :: S) h) : WW p l e R s m args below meth c Q g base y ρ0 n0 c0 s0 pc L (.double z :: .double x :: S) h := by
  intro H locs cells slots ls ρ r
  obtain ⟨r1, r2, r3, r4, r5, r6, r7, r8⟩ := r
  exact lv_dadd M.1 M.2.1 hd hz (kk H locs cells slots ls ρ ⟨r1, r2, r3, r4, r5, okS_cons trivial (okS_tl (okS_tl r6)), r7, r8⟩)
theorem st_ladd {x z : Int64} (M : MX p l R s m meth c y) (hd : decode (mCc y) pc = .ok (.ladd, 1))  (kk : WW p l e R s m args below meth c Q g base y ρ0 n0 c0 s0 (pc + 1) L (.long (x + z) :: S) h) : WW p l e R s m args below meth c Q g base y ρ0 n0 c0 s0 pc L (.long z :: .long x :: S) h := by
  intro H locs cells slots ls ρ r
  obtain ⟨r1, r2, r3, r4, r5, r6, r7, r8⟩ := r
  exact lv_ladd M.1 M.2.1 hd (kk H locs cells slots ls ρ ⟨r1, r2, r3, r4, r5, okS_cons trivial (okS_tl (okS_tl r6)), r7, r8⟩)
theorem st_lmul {x z : Int64} (M : MX p l R s m meth c y) (hd : decode (mCc y) pc = .ok (.lmul, 1))  (kk : WW p l e R s m args below meth c Q g base y ρ0 n0 c0 s0 (pc + 1) L (.long (x * z) :: S) h) : WW p l e R s m args below meth c Q g base y ρ0 n0 c0 s0 pc L (.long z :: .long x :: S) h := by
  intro H locs cells slots ls ρ r
  obtain ⟨r1, r2, r3, r4, r5, r6, r7, r8⟩ := r
  exact lv_lmul M.1 M.2.1 hd (kk H locs cells slots ls ρ ⟨r1, r2, r3, r4, r5, okS_cons trivial (okS_tl (okS_tl r6)), r7, r8⟩)
theorem st_ddiv {x z : UInt64} (M : MX p l R s m meth c y) (hd : decode (mCc y) pc = .ok (.ddiv, 1)) (hz : vf_n64 (FP.ddiv x z)) (kk : WW p l e R s m args below meth c Q g base y ρ0 n0 c0 s0 (pc + 1) L (.double (FP.ddiv x z) :: S) h) : WW p l e R s m args below meth c Q g base y ρ0 n0 c0 s0 pc L (.double z :: .double x :: S) h := by
  intro H locs cells slots ls ρ r
  obtain ⟨r1, r2, r3, r4, r5, r6, r7, r8⟩ := r
  exact lv_ddiv M.1 M.2.1 hd hz (kk H locs cells slots ls ρ ⟨r1, r2, r3, r4, r5, okS_cons trivial (okS_tl (okS_tl r6)), r7, r8⟩)
theorem st_lcmp {x z : Int64} (M : MX p l R s m meth c y) (hd : decode (mCc y) pc = .ok (.lcmp, 1))  (kk : WW p l e R s m args below meth c Q g base y ρ0 n0 c0 s0 (pc + 1) L (.int (lg_cmp x z) :: S) h) : WW p l e R s m args below meth c Q g base y ρ0 n0 c0 s0 pc L (.long z :: .long x :: S) h := by
  intro H locs cells slots ls ρ r
  obtain ⟨r1, r2, r3, r4, r5, r6, r7, r8⟩ := r
  exact W.lcmp M.1 M.2.1 hd (kk H locs cells slots ls ρ ⟨r1, r2, r3, r4, r5, okS_cons trivial (okS_tl (okS_tl r6)), r7, r8⟩)
theorem st_ineg {x : Int32} (M : MX p l R s m meth c y) (hd : decode (mCc y) pc = .ok (.ineg, 1))  (kk : WW p l e R s m args below meth c Q g base y ρ0 n0 c0 s0 (pc + 1) L (.int (-x) :: S) h) : WW p l e R s m args below meth c Q g base y ρ0 n0 c0 s0 pc L (.int x :: S) h := by
  intro H locs cells slots ls ρ r
  obtain ⟨r1, r2, r3, r4, r5, r6, r7, r8⟩ := r
  exact lv_ineg M.1 M.2.1 hd (kk H locs cells slots ls ρ ⟨r1, r2, r3, r4, r5, okS_cons trivial (okS_tl r6), r7, r8⟩)
theorem st_i2l {x : Int32} (M : MX p l R s m meth c y) (hd : decode (mCc y) pc = .ok (.i2l, 1))  (kk : WW p l e R s m args below meth c Q g base y ρ0 n0 c0 s0 (pc + 1) L (.long (x.toInt64) :: S) h) : WW p l e R s m args below meth c Q g base y ρ0 n0 c0 s0 pc L (.int x :: S) h := by
  intro H locs cells slots ls ρ r
  obtain ⟨r1, r2, r3, r4, r5, r6, r7, r8⟩ := r
  exact lv_i2l M.1 M.2.1 hd rfl (kk H locs cells slots ls ρ ⟨r1, r2, r3, r4, r5, okS_cons trivial (okS_tl r6), r7, r8⟩)
theorem st_i2d {x : Int32} (M : MX p l R s m meth c y) (hd : decode (mCc y) pc = .ok (.i2d, 1))  (kk : WW p l e R s m args below meth c Q g base y ρ0 n0 c0 s0 (pc + 1) L (.double (FP.i2d x) :: S) h) : WW p l e R s m args below meth c Q g base y ρ0 n0 c0 s0 pc L (.int x :: S) h := by
  intro H locs cells slots ls ρ r
  obtain ⟨r1, r2, r3, r4, r5, r6, r7, r8⟩ := r
  exact lv_i2d M.1 M.2.1 hd (kk H locs cells slots ls ρ ⟨r1, r2, r3, r4, r5, okS_cons trivial (okS_tl r6), r7, r8⟩)
theorem st_dcmp {x z : UInt64} {op : CmpOp} (M : MX p l R s m meth c y) (hd : decode (mCc y) pc = .ok (.dcmp op, 1)) (kk : WW p l e R s m args below meth c Q g base y ρ0 n0 c0 s0 (pc + 1) L (.int (Op.cmpValue (FP.dcmp x z) op) :: S) h) : WW p l e R s m args below meth c Q g base y ρ0 n0 c0 s0 pc L (.double z :: .double x :: S) h := by
  intro H locs cells slots ls ρ r
  obtain ⟨r1, r2, r3, r4, r5, r6, r7, r8⟩ := r
  exact lv_dcmp M.1 M.2.1 hd (kk H locs cells slots ls ρ ⟨r1, r2, r3, r4, r5, okS_cons trivial (okS_tl (okS_tl r6)), r7, r8⟩)
theorem tg_at {pc t : Nat} {off : Int} (h : tg pc off = some t) : (pc : Int) + off = (t : Int) := by
  unfold tg at h
  split at h
  · next q e => cases h; rw [e]; rfl
  · cases h
theorem st_goto {off : Int} {t : Nat} (M : MX p l R s m meth c y) (hd : decode (mCc y) pc = .ok (.goto off, 3)) (ht : tg pc off = some t) (kk : WW p l e R s m args below meth c Q g base y ρ0 n0 c0 s0 t L S h) : WW p l e R s m args below meth c Q g base y ρ0 n0 c0 s0 pc L S h := by
  intro H locs cells slots ls ρ r
  obtain ⟨r1, r2, r3, r4, r5, r6, r7, r8⟩ := r
  exact lv_goto M.1 M.2.1 hd (tg_at ht) (kk H locs cells slots ls ρ ⟨r1, r2, r3, r4, r5, r6, r7, r8⟩)
theorem st_icmp {op : ClassFile.Cond} {off : Int} {t : Nat} {x z : Int32} (M : MX p l R s m meth c y) (hd : decode (mCc y) pc = .ok (.if_icmp op off, 3)) (ht : tg pc off = some t) (kt : cnd op x z = true → WW p l e R s m args below meth c Q g base y ρ0 n0 c0 s0 t L S h) (kf : ¬ cnd op x z = true → WW p l e R s m args below meth c Q g base y ρ0 n0 c0 s0 (pc + 3) L S h) : WW p l e R s m args below meth c Q g base y ρ0 n0 c0 s0 pc L (.int z :: .int x :: S) h := by
  intro H locs cells slots ls ρ r
  obtain ⟨r1, r2, r3, r4, r5, r6, r7, r8⟩ := r
  have r6 := okS_tl (okS_tl r6)
  cases op
  · exact lv_icmp_eq M.1 M.2.1 hd (tg_at ht) (fun q => kt (by simp [cnd, q]) H locs cells slots ls ρ ⟨r1, r2, r3, r4, r5, r6, r7, r8⟩) (fun q => kf (by simpa [cnd] using q) H locs cells slots ls ρ ⟨r1, r2, r3, r4, r5, r6, r7, r8⟩)
  · exact lv_icmp_ne M.1 M.2.1 hd (tg_at ht) (fun q => kt (by simp [cnd, q]) H locs cells slots ls ρ ⟨r1, r2, r3, r4, r5, r6, r7, r8⟩) (fun q => kf (by simpa [cnd] using q) H locs cells slots ls ρ ⟨r1, r2, r3, r4, r5, r6, r7, r8⟩)
  · exact lv_icmp_lt M.1 M.2.1 hd (tg_at ht) (fun q => kt (by simp [cnd, q]) H locs cells slots ls ρ ⟨r1, r2, r3, r4, r5, r6, r7, r8⟩) (fun q => kf (by simpa [cnd] using q) H locs cells slots ls ρ ⟨r1, r2, r3, r4, r5, r6, r7, r8⟩)
  · exact lv_icmp_ge M.1 M.2.1 hd (tg_at ht) (fun q => kt (by simp [cnd, q]) H locs cells slots ls ρ ⟨r1, r2, r3, r4, r5, r6, r7, r8⟩) (fun q => kf (by simpa [cnd] using q) H locs cells slots ls ρ ⟨r1, r2, r3, r4, r5, r6, r7, r8⟩)
  · exact lv_icmp_gt M.1 M.2.1 hd (tg_at ht) (fun q => kt (by simp [cnd, q]) H locs cells slots ls ρ ⟨r1, r2, r3, r4, r5, r6, r7, r8⟩) (fun q => kf (by simpa [cnd] using q) H locs cells slots ls ρ ⟨r1, r2, r3, r4, r5, r6, r7, r8⟩)
  · exact lv_icmp_le M.1 M.2.1 hd (tg_at ht) (fun q => kt (by simp [cnd, q]) H locs cells slots ls ρ ⟨r1, r2, r3, r4, r5, r6, r7, r8⟩) (fun q => kf (by simpa [cnd] using q) H locs cells slots ls ρ ⟨r1, r2, r3, r4, r5, r6, r7, r8⟩)
theorem st_if {op : ClassFile.Cond} {off : Int} {t : Nat} {x : Int32} (M : MX p l R s m meth c y) (hd : decode (mCc y) pc = .ok (.ifCond op off, 3)) (ht : tg pc off = some t) (kt : cnd op x 0 = true → WW p l e R s m args below meth c Q g base y ρ0 n0 c0 s0 t L S h) (kf : ¬ cnd op x 0 = true → WW p l e R s m args below meth c Q g base y ρ0 n0 c0 s0 (pc + 3) L S h) : WW p l e R s m args below meth c Q g base y ρ0 n0 c0 s0 pc L (.int x :: S) h := by
  intro H locs cells slots ls ρ r
  obtain ⟨r1, r2, r3, r4, r5, r6, r7, r8⟩ := r
  have r6 := okS_tl r6
  cases op
  · exact lv_if_eq M.1 M.2.1 hd (tg_at ht) (fun q => kt (by simp [cnd, q]) H locs cells slots ls ρ ⟨r1, r2, r3, r4, r5, r6, r7, r8⟩) (fun q => kf (by simpa [cnd] using q) H locs cells slots ls ρ ⟨r1, r2, r3, r4, r5, r6, r7, r8⟩)
  · exact lv_if_ne M.1 M.2.1 hd (tg_at ht) (fun q => kt (by simp [cnd, q]) H locs cells slots ls ρ ⟨r1, r2, r3, r4, r5, r6, r7, r8⟩) (fun q => kf (by simpa [cnd] using q) H locs cells slots ls ρ ⟨r1, r2, r3, r4, r5, r6, r7, r8⟩)
  · exact lv_if_lt M.1 M.2.1 hd (tg_at ht) (fun q => kt (by simp [cnd, q]) H locs cells slots ls ρ ⟨r1, r2, r3, r4, r5, r6, r7, r8⟩) (fun q => kf (by simpa [cnd] using q) H locs cells slots ls ρ ⟨r1, r2, r3, r4, r5, r6, r7, r8⟩)
  · exact lv_if_ge M.1 M.2.1 hd (tg_at ht) (fun q => kt (by simp [cnd, q]) H locs cells slots ls ρ ⟨r1, r2, r3, r4, r5, r6, r7, r8⟩) (fun q => kf (by simpa [cnd] using q) H locs cells slots ls ρ ⟨r1, r2, r3, r4, r5, r6, r7, r8⟩)
  · exact lv_if_gt M.1 M.2.1 hd (tg_at ht) (fun q => kt (by simp [cnd, q]) H locs cells slots ls ρ ⟨r1, r2, r3, r4, r5, r6, r7, r8⟩) (fun q => kf (by simpa [cnd] using q) H locs cells slots ls ρ ⟨r1, r2, r3, r4, r5, r6, r7, r8⟩)
  · exact lv_if_le M.1 M.2.1 hd (tg_at ht) (fun q => kt (by simp [cnd, q]) H locs cells slots ls ρ ⟨r1, r2, r3, r4, r5, r6, r7, r8⟩) (fun q => kf (by simpa [cnd] using q) H locs cells slots ls ρ ⟨r1, r2, r3, r4, r5, r6, r7, r8⟩)
theorem st_tblO {d lo hi : Int} {offs : Array Int} {n t : Nat} {x : Int32} (M : MX p l R s m meth c y) (hd : decode (mCc y) pc = .ok (.tableswitch d lo hi offs, n)) (hx : x.toInt < lo ∨ hi < x.toInt) (ht : tg pc d = some t) (kk : WW p l e R s m args below meth c Q g base y ρ0 n0 c0 s0 t L S h) : WW p l e R s m args below meth c Q g base y ρ0 n0 c0 s0 pc L (.int x :: S) h := by
  intro H locs cells slots ls ρ r
  obtain ⟨r1, r2, r3, r4, r5, r6, r7, r8⟩ := r
  exact lv_tableOut M.1 M.2.1 hd hx (tg_at ht) (kk H locs cells slots ls ρ ⟨r1, r2, r3, r4, r5, okS_tl r6, r7, r8⟩)
theorem st_tblI {d lo hi o : Int} {offs : Array Int} {n t : Nat} {x : Int32} (M : MX p l R s m meth c y) (hd : decode (mCc y) pc = .ok (.tableswitch d lo hi offs, n)) (hx : ¬ (x.toInt < lo ∨ hi < x.toInt)) (ho : offs[(x.toInt - lo).toNat]? = some o) (ht : tg pc o = some t) (kk : WW p l e R s m args below meth c Q g base y ρ0 n0 c0 s0 t L S h) : WW p l e R s m args below meth c Q g base y ρ0 n0 c0 s0 pc L (.int x :: S) h := by
  intro H locs cells slots ls ρ r
  obtain ⟨r1, r2, r3, r4, r5, r6, r7, r8⟩ := r
  exact lv_tableIn M.1 M.2.1 hd (fun q => hx (Or.inl q)) (fun q => hx (Or.inr q)) ho (tg_at ht) (kk H locs cells slots ls ρ ⟨r1, r2, r3, r4, r5, okS_tl r6, r7, r8⟩)
theorem st_lkp {d : Int} {ps : Array (Int × Int)} {n t : Nat} {x : Int32} (M : MX p l R s m meth c y) (hd : decode (mCc y) pc = .ok (.lookupswitch d ps, n)) (hp : (ps.toList.zip (ps.toList.drop 1)).all (fun (a, next) => a.1 < next.1) = true) (ht : tg pc (Op.lookupswitch.offset ps.toList d x.toInt) = some t) (kk : WW p l e R s m args below meth c Q g base y ρ0 n0 c0 s0 t L S h) : WW p l e R s m args below meth c Q g base y ρ0 n0 c0 s0 pc L (.int x :: S) h := by
  intro H locs cells slots ls ρ r
  obtain ⟨r1, r2, r3, r4, r5, r6, r7, r8⟩ := r
  exact lv_lookup M.1 M.2.1 hd hp rfl (tg_at ht) (kk H locs cells slots ls ρ ⟨r1, r2, r3, r4, r5, okS_tl r6, r7, r8⟩)
theorem st_get {k a : Nat} {r0 : Nat × Nat} {v : Value} (M : MX p l R s m meth c y) (C : CT base g s s.heap) (hd : decode (mCc y) pc = .ok (.getfield k, 3)) (hf : lk2 fldT (mOwn y) k = some r0) (hg : gf h r0.1 r0.2 a = some v) (kk : WW p l e R s m args below meth c Q g base y ρ0 n0 c0 s0 (pc + 3) L (v :: S) h) : WW p l e R s m args below meth c Q g base y ρ0 n0 c0 s0 pc L (.ref a :: S) h := by
  intro H locs cells slots ls ρ r
  obtain ⟨r1, r2, r3, r4, r5, r6, r7, r8⟩ := r
  obtain ⟨ci, j⟩ := r0
  obtain ⟨w1, w2, w3⟩ := fld_ok _ (lk2_mem hf)
  obtain ⟨k1, k2, k3, k4⟩ := cls_ok ci w2
  have ha : a < h.1 := okS_hd r6
  obtain ⟨fs, hfs, hv⟩ : ∃ fs, h.2.2.2 a = .inr (ci, fs) ∧ fs[j]? = some v := by
    unfold gf at hg
    split at hg
    · next cc fs e =>
      split at hg
      · next q => subst q; exact ⟨fs, e, hg⟩
      · cases hg
    · cases hg
  have h3 : 3 ≤ a := by
    rcases Nat.lt_or_ge a 3 with q | q
    · rw [(r2.2.2.2.2 a q).2] at hfs; cases hfs
    · exact q
  have he : (wl g ρ h)[a - 3]? = some (ρ a, .inr (ci, fs.map (rv ρ))) := by rw [wl_at g ρ h h3 ha, hfs]; rfl
  have hok : okV h.1 v := by
    have := r2.2.2.2.1 a ha
    rw [hfs] at this
    exact this.2 v (List.mem_of_getElem? hv)
  have hv' : (fs.map (rv ρ))[j]? = some (rv ρ v) := by rw [List.getElem?_map, hv]; rfl
  exact va_get M.1 M.2.1 (fun w hw => C.word hw args) k2 M.2.2.2.2.2.1 C.1 r2.1 (a - 3) he k1 j w3 (C.word w1 args) (fun x hx => hx) hv' hd (kk H locs cells slots ls ρ ⟨r1, r2, r3, r4, r5, okS_cons hok (okS_tl r6), r7, r8⟩)
theorem pf_at {h h1 : Hp} {ci j a : Nat} {v : Value} (hg : pf h ci j a v = some h1) : ∃ fs, h.2.2.2 a = .inr (ci, fs) ∧ j < fs.length ∧ narrow (yC ci j) v = v ∧ fits (yC ci j) v = true ∧ h1 = hset h a (.inr (ci, fs.set j v)) := by
  unfold pf at hg
  split at hg
  · next cc fs e =>
    split at hg
    · next q =>
      obtain ⟨q1, q2, q3⟩ := q
      subst q1
      simp only [fitV, Bool.and_eq_true, decide_eq_true_eq] at q3
      exact ⟨fs, e, q2, q3.1, q3.2, (Option.some.inj hg).symm⟩
    · cases hg
  · cases hg
theorem fits_rv (ρ : Nat → Nat) (ty : FieldType) (v : Value) (h : fits ty v = true) : fits ty (rv ρ v) = true := by
  cases v <;> first | exact h | (cases ty <;> first | exact h | rfl)
theorem narrow_rv (ρ : Nat → Nat) (ty : FieldType) (v : Value) (h : narrow ty v = v) : narrow ty (rv ρ v) = rv ρ v := by
  cases v <;> first | exact h | (cases ty <;> rfl)
theorem st_put {k a : Nat} {r0 : Nat × Nat} {v : Value} {h1 : Hp} (M : MX p l R s m meth c y) (C : CT base g s s.heap) (hd : decode (mCc y) pc = .ok (.putfield k, 3)) (hf : lk2 fldT (mOwn y) k = some r0) (hfi : finF r0.1 r0.2 = false ∨ (isInit y = true ∧ (TC r0.1 r0.2).1 = ownN (mOwn y))) (hg : pf h r0.1 r0.2 a v = some h1) (kk : WW p l e R s m args below meth c Q g base y ρ0 n0 c0 s0 (pc + 3) L S h1) : WW p l e R s m args below meth c Q g base y ρ0 n0 c0 s0 pc L (v :: .ref a :: S) h := by
  intro H locs cells slots ls ρ r
  obtain ⟨r1, r2, r3, r4, r5, r6, r7, r8⟩ := r
  obtain ⟨ci, j⟩ := r0
  obtain ⟨w1, w2, w3⟩ := fld_ok _ (lk2_mem hf)
  obtain ⟨k1, k2, k3, k4⟩ := cls_ok ci w2
  have ha : a < h.1 := okS_hd (okS_tl r6)
  obtain ⟨fs, hfs, hj, hn, hft, rfl⟩ := pf_at hg
  have h3 : 3 ≤ a := by
    rcases Nat.lt_or_ge a 3 with q | q
    · rw [(r2.2.2.2.2 a q).2] at hfs; cases hfs
    · exact q
  have he : (wl g ρ h)[a - 3]? = some (ρ a, .inr (ci, fs.map (rv ρ))) := by rw [wl_at g ρ h h3 ha, hfs]; rfl
  have hok : okE h.1 (.inr (ci, fs.set j v)) := by
    have h0 := r2.2.2.2.1 a ha
    rw [hfs] at h0
    refine ⟨h0.1, fun w hw => ?_⟩
    rcases List.mem_or_eq_of_mem_set hw with q | q
    · exact h0.2 w q
    · rw [q]; exact okS_hd r6
  have hset : (fs.map (rv ρ)).set j (rv ρ v) = (fs.set j v).map (rv ρ) := by rw [List.map_set]
  have hlen : j < (fs.map (rv ρ)).length := by rw [List.length_map]; exact hj
  have kk' : ∀ (H1 : Heap) (locs1 : List Loc), va_P (gD g) vwCl ((wl g ρ h).set (a - 3) (ρ a, .inr (ci, (fs.map (rv ρ)).set j (rv ρ v)))) H1 → va_D (fun q => base ≤ q) ((wl g ρ h).set (a - 3) (ρ a, .inr (ci, (fs.map (rv ρ)).set j (rv ρ v)))) → va_S (fun q => base ≤ q) s.heap H1 locs1 → W p l e R s m args below meth c H1 locs1 cells slots Q (F0 m (pc + 3) ls (S.map (rv ρ))) := by
    intro H1 locs1 hP hD hS
    rw [hset] at hP hD
    exact kk H1 locs1 cells slots ls ρ ⟨hS, r2.set h3 hok hP hD, r3, r4, r5, okS_tl (okS_tl r6), r7, r8⟩
  by_cases hfin : (TC ci j).2.2.2 = false
  · exact va_put M.1 M.2.1 (fun w hw => C.word hw args) k2 (yC ci) k4 k3 M.2.2.2.2.2.1 C.1 r2.1 r2.2.1 r1 (a - 3) he k1 j w3 (C.word w1 args) (fun x hx => hx) hfin (k4 j w3) (narrow_rv ρ _ _ hn) (fits_rv ρ _ _ hft) hlen hd kk'
  · rcases hfi with q | ⟨q1, q2⟩
    · exact absurd q hfin
    · have hfin : (TC ci j).2.2.2 = true := by simpa using hfin
      have hin : meth.name = "<init>" := M.2.2.2.2.2.2.2.2.1 q1
      exact va_putF M.1 M.2.1 (fun w hw => C.word hw args) k2 (yC ci) k4 k3 M.2.2.2.2.2.1 C.1 r2.1 r2.2.1 r1 (a - 3) he k1 j w3 (C.word w1 args) (fun x hx => hx) hfin hin q2 (k4 j w3) (narrow_rv ρ _ _ hn) (fits_rv ρ _ _ hft) hlen hd kk'
theorem st_gets {k a : Nat} (M : MX p l R s m meth c y) (C : CT base g s s.heap) (hd : decode (mCc y) pc = .ok (.getstatic k, 3)) (hf : lk2 staT (mOwn y) k = some a) (kk : WW p l e R s m args below meth c Q g base y ρ0 n0 c0 s0 (pc + 3) L (.ref a :: S) h) : WW p l e R s m args below meth c Q g base y ρ0 n0 c0 s0 pc L S h := by
  intro H locs cells slots ls ρ r
  obtain ⟨r1, r2, r3, r4, r5, r6, r7, r8⟩ := r
  obtain ⟨w1, w2⟩ := sta_ok _ (lk2_mem hf)
  have w2 : a = 1 ∨ a = 2 := w2
  have h3 := r2.2.2.1
  have ha : a < h.1 := by omega
  have hZ := C.2.2.2.2.1 a w2
  rw [← (r2.2.2.2.2 a (by omega)).1] at hZ
  exact va_gets M.1 M.2.1 hZ r1 M.2.2.2.2.2.1 (C.word w1 args) (fun x hx => hx) hd (kk H locs cells slots ls ρ ⟨r1, r2, r3, r4, r5, okS_cons ha r6, r7, r8⟩)
theorem inB_at {i : Int32} {n : Nat} (h : inB i n = true) : vp_in i n := by
  simp only [inB, Bool.not_eq_true', Bool.or_eq_false_iff, decide_eq_false_iff_not] at h
  exact fun q => q.elim h.1 h.2
theorem gaI_at {h : Hp} {a : Nat} {i v : Int32} (hg : gaI h a i = some v) : ∃ n f, h.2.2.2 a = .inl (0, n, .inl f) ∧ vp_in i n ∧ v = f i.toNatClampNeg := by
  unfold gaI at hg
  split at hg
  · next t n f e =>
    split at hg
    · next q => obtain ⟨rfl, q⟩ := q; exact ⟨n, f, e, inB_at q, (Option.some.inj hg).symm⟩
    · cases hg
  · cases hg
theorem paI_at {h h1 : Hp} {a : Nat} {i x : Int32} (hg : paI h a i x = some h1) : ∃ n f, h.2.2.2 a = .inl (0, n, .inl f) ∧ vp_in i n ∧ 3 ≤ a ∧ h1 = hset h a (.inl (0, n, .inl (upd f i.toNatClampNeg x))) := by
  unfold paI at hg
  split at hg
  · next t n f e =>
    split at hg
    · next q => obtain ⟨rfl, q, q3⟩ := q; exact ⟨n, f, e, inB_at q, q3, (Option.some.inj hg).symm⟩
    · cases hg
  · cases hg
theorem st_iald {a : Nat} {i v : Int32} (M : MX p l R s m meth c y) (C : CT base g s s.heap) (hd : decode (mCc y) pc = .ok (.iaload, 1)) (hg : gaI h a i = some v) (kk : WW p l e R s m args below meth c Q g base y ρ0 n0 c0 s0 (pc + 1) L (.int v :: S) h) : WW p l e R s m args below meth c Q g base y ρ0 n0 c0 s0 pc L (.int i :: .ref a :: S) h := by
  intro H locs cells slots ls ρ r
  obtain ⟨r1, r2, r3, r4, r5, r6, r7, r8⟩ := r
  obtain ⟨n, f, e, hi, rfl⟩ := gaI_at hg
  have ha : a < h.1 := okS_hd (okS_tl r6)
  have kk' := kk H locs cells slots ls ρ ⟨r1, r2, r3, r4, r5, okS_cons trivial (okS_tl (okS_tl r6)), r7, r8⟩
  rcases Nat.lt_or_ge a 3 with q | q
  · have h1 := r2.2.2.2.2 a q
    rw [h1.2] at e
    cases e
    have hT := C.2.2.2.1 a q
    rw [← h1.1] at hT
    exact va_ti M.1 M.2.1 hT r1 hi rfl hd kk'
  · have he : (wl g ρ h)[a - 3]? = some (ρ a, .inl (gA g 0, n, .inl f)) := by rw [wl_at g ρ h q ha, e]; rfl
    exact va_iald M.1 M.2.1 C.1 r2.1 (a - 3) 0 he (gT_at g (by omega)) hi hd kk'
theorem st_iast {a : Nat} {i x : Int32} {h1 : Hp} (M : MX p l R s m meth c y) (C : CT base g s s.heap) (hd : decode (mCc y) pc = .ok (.iastore, 1)) (hg : paI h a i x = some h1) (kk : WW p l e R s m args below meth c Q g base y ρ0 n0 c0 s0 (pc + 1) L S h1) : WW p l e R s m args below meth c Q g base y ρ0 n0 c0 s0 pc L (.int x :: .int i :: .ref a :: S) h := by
  intro H locs cells slots ls ρ r
  obtain ⟨r1, r2, r3, r4, r5, r6, r7, r8⟩ := r
  obtain ⟨n, f, e, hi, h3, rfl⟩ := paI_at hg
  have ha : a < h.1 := okS_hd (okS_tl (okS_tl r6))
  have he : (wl g ρ h)[a - 3]? = some (ρ a, .inl (gA g 0, n, .inl f)) := by rw [wl_at g ρ h h3 ha, e]; rfl
  exact va_iast M.1 M.2.1 C.1 r2.1 r2.2.1 r1 (a - 3) 0 he (gT_at g (by omega)) hi hd (fun H1 locs1 hP hD hS => kk H1 locs1 cells slots ls ρ ⟨hS, r2.set h3 ⟨Nat.le_of_ble_eq_true rfl, trivial⟩ hP hD, r3, r4, r5, okS_tl (okS_tl (okS_tl r6)), r7, r8⟩)
theorem old3 {base : Nat} {g : GG} {ρ : Nat → Nat} {h : Hp} {H : Heap} {a n t : Nat} {d : Dt} (r2 : Pic base g ρ h H) (e : h.2.2.2 a = .inl (t, n, d)) (ht : t ≠ 0) : 3 ≤ a := by
  rcases Nat.lt_or_ge a 3 with q | q
  · rw [(r2.2.2.2.2 a q).2] at e; cases e; exact absurd rfl ht
  · exact q
theorem gaR_at {h : Hp} {a : Nat} {i : Int32} {v : Option Nat} (hg : gaR h a i = some v) : ∃ (t : Nat) (n : Nat) (f : Nat → Option Nat), (t = 1 ∨ t = 2) ∧ h.2.2.2 a = .inl (t, n, .inr (.inr (.inr (.inr f)))) ∧ vp_in i n ∧ v = f i.toNatClampNeg := by
  unfold gaR at hg
  split at hg
  · next t n f e =>
    split at hg
    · next q => exact ⟨t, n, f, q.1, e, inB_at q.2, (Option.some.inj hg).symm⟩
    · cases hg
  · cases hg
theorem isO_at {h : Hp} {a ci : Nat} (hg : isO h a ci = true) : ∃ fs, h.2.2.2 a = .inr (ci, fs) := by
  unfold isO at hg
  split at hg
  · next cc fs e => have q := of_decide_eq_true hg; subst q; exact ⟨fs, e⟩
  · cases hg
theorem paR_at {h h1 : Hp} {a v : Nat} {i : Int32} (hg : paR h a i v = some h1) : ∃ (t : Nat) (n : Nat) (f : Nat → Option Nat) (fs : List Value), (t = 1 ∨ t = 2) ∧ h.2.2.2 a = .inl (t, n, .inr (.inr (.inr (.inr f)))) ∧ vp_in i n ∧ h.2.2.2 v = .inr (elC t, fs) ∧ h1 = hset h a (.inl (t, n, .inr (.inr (.inr (.inr (va_up f i.toNatClampNeg (some v))))))) := by
  unfold paR at hg
  split at hg
  · next t n f e =>
    split at hg
    · next q => obtain ⟨fs, hfs⟩ := isO_at q.2.2; exact ⟨t, n, f, fs, q.1, e, inB_at q.2.1, hfs, (Option.some.inj hg).symm⟩
    · cases hg
  · cases hg
theorem rv_rf (ρ : Nat → Nat) (v : Option Nat) : rv ρ (va_rf v) = va_rf (v.map ρ) := by cases v <;> rfl
theorem st_aald {a : Nat} {i : Int32} {v : Option Nat} (M : MX p l R s m meth c y) (C : CT base g s s.heap) (hd : decode (mCc y) pc = .ok (.aaload, 1)) (hg : gaR h a i = some v) (kk : WW p l e R s m args below meth c Q g base y ρ0 n0 c0 s0 (pc + 1) L (va_rf v :: S) h) : WW p l e R s m args below meth c Q g base y ρ0 n0 c0 s0 pc L (.int i :: .ref a :: S) h := by
  intro H locs cells slots ls ρ r
  obtain ⟨r1, r2, r3, r4, r5, r6, r7, r8⟩ := r
  obtain ⟨t, n, f, ht, e, hi, rfl⟩ := gaR_at hg
  have ha : a < h.1 := okS_hd (okS_tl r6)
  have h3 := old3 r2 e (by omega)
  have he : (wl g ρ h)[a - 3]? = some (ρ a, .inl (gA g t, n, .inr (.inr (.inr (.inr (fun i => (f i).map ρ)))))) := by rw [wl_at g ρ h h3 ha, e]; rfl
  have hty : ∃ C0, tyO t = .object C0 := by rcases ht with rfl | rfl <;> exact ⟨_, rfl⟩
  obtain ⟨C0, hC0⟩ := hty
  have hT := gT_at g (t := t) (by omega)
  rw [hC0] at hT
  have hok : okV h.1 (va_rf (f i.toNatClampNeg)) := by
    have h0 := r2.2.2.2.1 a ha
    rw [e] at h0
    cases hv : f i.toNatClampNeg with
    | none => trivial
    | some k => exact h0.2 _ _ hv
  have kk' := kk H locs cells slots ls ρ ⟨r1, r2, r3, r4, r5, okS_cons hok (okS_tl (okS_tl r6)), r7, r8⟩
  rw [List.map_cons, rv_rf] at kk'
  exact va_aldq M.1 M.2.1 C.1 r2.1 (a - 3) t he hT hi hd kk'
theorem st_aast {a v : Nat} {i : Int32} {h1 : Hp} (M : MX p l R s m meth c y) (C : CT base g s s.heap) (hd : decode (mCc y) pc = .ok (.aastore, 1)) (hg : paR h a i v = some h1) (kk : WW p l e R s m args below meth c Q g base y ρ0 n0 c0 s0 (pc + 1) L S h1) : WW p l e R s m args below meth c Q g base y ρ0 n0 c0 s0 pc L (.ref v :: .int i :: .ref a :: S) h := by
  intro H locs cells slots ls ρ r
  obtain ⟨r1, r2, r3, r4, r5, r6, r7, r8⟩ := r
  obtain ⟨t, n, f, fs, ht, e, hi, hv, rfl⟩ := paR_at hg
  have ha : a < h.1 := okS_hd (okS_tl (okS_tl r6))
  have hvl : v < h.1 := okS_hd r6
  have h3 := old3 r2 e (by omega)
  have hv3 : 3 ≤ v := by
    rcases Nat.lt_or_ge v 3 with q | q
    · rw [(r2.2.2.2.2 v q).2] at hv; cases hv
    · exact q
  have he : (wl g ρ h)[a - 3]? = some (ρ a, .inl (gA g t, n, .inr (.inr (.inr (.inr (fun i => (f i).map ρ)))))) := by rw [wl_at g ρ h h3 ha, e]; rfl
  have hev : (wl g ρ h)[v - 3]? = some (ρ v, .inr (elC t, fs.map (rv ρ))) := by rw [wl_at g ρ h hv3 hvl, hv]; rfl
  have hcl : vwCl[elC t]? = some (RC (elC t), TC (elC t), NC (elC t)) := (cls_ok (elC t) (by unfold elC; split <;> omega)).1
  have hT : (gT g)[t]? = some (gA g t, .object (RC (elC t))) := by
    rw [gT_at g (t := t) (by omega)]
    rcases ht with rfl | rfl <;> rfl
  have hok : okE h.1 (.inl (t, n, .inr (.inr (.inr (.inr (va_up f i.toNatClampNeg (some v))))))) := by
    have h0 := r2.2.2.2.1 a ha
    rw [e] at h0
    refine ⟨h0.1, fun j k hj => ?_⟩
    unfold va_up at hj
    split at hj
    · cases hj; exact hvl
    · exact h0.2 j k hj
  have hup : va_up (fun i => (f i).map ρ) i.toNatClampNeg (some (ρ v)) = fun j => (va_up f i.toNatClampNeg (some v) j).map ρ := by
    funext j
    unfold va_up
    split <;> rfl
  refine va_astq (r := (RC (elC t), TC (elC t), NC (elC t))) M.1 M.2.1 C.1 r2.1 r2.2.1 r1 (a - 3) t (v - 3) (elC t) he hT hev hcl hi hd (fun H1 locs1 hP hD hS => ?_)
  rw [hup] at hP hD
  exact kk H1 locs1 cells slots ls ρ ⟨hS, r2.set h3 hok hP hD, r3, r4, r5, okS_tl (okS_tl (okS_tl r6)), r7, r8⟩
theorem alen_at {h : Hp} {a N : Nat} (hg : alen h a = some N) : ∃ t d, h.2.2.2 a = .inl (t, N, d) := by
  unfold alen at hg
  split at hg
  · next t n d e => cases hg; exact ⟨t, d, e⟩
  · cases hg
theorem st_alen {a N : Nat} (M : MX p l R s m meth c y) (C : CT base g s s.heap) (hd : decode (mCc y) pc = .ok (.arraylength, 1)) (hg : alen h a = some N) (kk : WW p l e R s m args below meth c Q g base y ρ0 n0 c0 s0 (pc + 1) L (.int (Int32.ofNat N) :: S) h) : WW p l e R s m args below meth c Q g base y ρ0 n0 c0 s0 pc L (.ref a :: S) h := by
  intro H locs cells slots ls ρ r
  obtain ⟨r1, r2, r3, r4, r5, r6, r7, r8⟩ := r
  obtain ⟨t, d, e⟩ := alen_at hg
  have ha : a < h.1 := okS_hd r6
  have kk' := kk H locs cells slots ls ρ ⟨r1, r2, r3, r4, r5, okS_cons trivial (okS_tl r6), r7, r8⟩
  have h0 := r2.2.2.2.1 a ha
  rw [e] at h0
  rcases Nat.lt_or_ge a 3 with q | q
  · have h1 := r2.2.2.2.2 a q
    rw [h1.2] at e
    cases e
    have hT := C.2.2.2.1 a q
    rw [← h1.1] at hT
    exact va_tlen M.1 M.2.1 hT r1 rfl hd kk'
  · have he : (wl g ρ h)[a - 3]? = some (ρ a, .inl (gA g t, N, rD ρ d)) := by rw [wl_at g ρ h q ha, e]; rfl
    exact va_alen M.1 M.2.1 C.1 r2.1 (a - 3) t he (gT_at g h0.1) rfl hd kk'
end STEPS
