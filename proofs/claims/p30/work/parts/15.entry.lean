section ENTRY
def rowStep (j : Nat) : Int32 := match j with | 0 => 0 | 1 => 1 | 2 => 1 | 3 => 0 | 4 => -1 | _ => -1
def colStep (j : Nat) : Int32 := match j with | 0 => 1 | 1 => 0 | 2 => -1 | 3 => -1 | 4 => 0 | _ => 1
theorem inst_all : (List.range 9).all (fun c => clnT.any fun e => e.2.2 == c) = true := by decide +kernel
theorem inst_ok {c : Nat} (h : c < 9) : Cond.instantiable (RC c) (NC c) ∈ Wg := by
  have h1 := List.all_eq_true.mp inst_all c (List.mem_range.mpr h)
  obtain ⟨e, he, h2⟩ := List.any_eq_true.mp h1
  have h2 : e.2.2 = c := by simpa using h2
  have h3 := (cln_ok e he).2.1
  rwa [h2] at h3
theorem arr_known {args : Array Value} {s : State} (hts : ∀ w ∈ lw_tbl, w.before args s = true) {t : Nat} (h : t < 3) : ∃ cA : ClassId, ArrOfT s cA (tyO t) ∧ va_RA s cA (tyO t) := by
  have hob : ∀ C0, (Cond.arrayOver (.object C0)).before args s = true → ∃ cA : ClassId, ArrOfT s cA (.object C0) ∧ va_RA s cA (.object C0) := by
    intro C0 h0
    obtain ⟨comp, c, k, h1, h2, h3, h4, h5⟩ := Cond.arrayOver_spec h0
    exact ⟨c, fun n z => ⟨fun k h => (by cases h), k, h3, comp, h4⟩, k, comp, h3, h4, h1, h5⟩
  match t, h with
  | 0, _ => obtain ⟨cA, kA, comp, h1, h2, h3⟩ := Cond.arrayClass_spec (hts _ w_arr); exact ⟨cA, fun n z => ⟨fun k h => (by cases h), kA, h2, comp, h3⟩, h1⟩
  | 1, _ => exact hob RX7 (hts _ (arr_ok (6, 15, 1) (by decide +kernel)).2.1)
  | 2, _ => exact hob RX6 (hts _ (arr_ok (4, 9, 2) (by decide +kernel)).2.1)
  | n + 3, h => exact absurd h (by omega)
/-- the steps' rows, as the Statement gives them -/
def steN (a j : Nat) : Int32 := if a = 1 then rowStep j else colStep j
theorem nar_T : ∀ a, a = 1 ∨ a = 2 → Cond.arrayOf (.static RX6 (staN a) "[I") .int ∈ flatC (Jvm.Cond.and given_1 narrow_1) ∧ Cond.eq (.length (.static RX6 (staN a) "[I")) (.int (Int32.ofNat 6)) ∈ flatC (Jvm.Cond.and given_1 narrow_1) ∧ ∀ j, j < 6 → Cond.eq (.elem (.static RX6 (staN a) "[I") (.int (Int32.ofNat j))) (.int (steN a j)) ∈ flatC (Jvm.Cond.and given_1 narrow_1) := by
  intro a ha
  rcases ha with rfl | rfl
  · exact ⟨by decide +kernel, by decide +kernel, by decide +kernel⟩
  · exact ⟨by decide +kernel, by decide +kernel, by decide +kernel⟩
theorem nar_U : Cond.isRef (.static Bundle.tN "UNASSIGNED_STACK" Bundle.steD) ∈ flatC (Jvm.Cond.and given_1 narrow_1) ∧ Cond.isRef (.static Bundle.tN "SUPPRESSED_SENTINEL" Bundle.listD) ∈ flatC (Jvm.Cond.and given_1 narrow_1) := ⟨by decide +kernel, by decide +kernel⟩
theorem nar_S : thrT.all (fun e => decide (Cond.exactly (.string RX8 e.2.2.2.2.1) "java/lang/String" ∈ flatC (Jvm.Cond.and given_1 narrow_1))) = true := by decide +kernel
theorem nar_N : ([15, 21, 23].all fun i => [15, 21, 23].all fun j => decide (i = j) || decide (Cond.not (.castable (catN i) (catN j)) ∈ flatC (Jvm.Cond.and given_1 narrow_1))) = true := by decide +kernel
theorem w_lays : Cond.laysStatic Bundle.tN "UNASSIGNED_STACK" Bundle.steD ∈ lw_tbl ∧ Cond.laysStatic Bundle.tN "SUPPRESSED_SENTINEL" Bundle.listD ∈ lw_tbl ∧ Cond.initialized Bundle.tN ∈ lw_tbl ∧ (∀ a, a = 1 ∨ a = 2 → Cond.laysStatic RX6 (staN a) "[I" ∈ lw_tbl) ∧ Cond.initialized RX6 ∈ lw_tbl := by
  refine ⟨List.mem_append_right _ (List.mem_of_getElem? (i := 479) (by decide +kernel)), List.mem_append_right _ (List.mem_of_getElem? (i := 481) (by decide +kernel)), List.mem_append_right _ (List.mem_of_getElem? (i := 12) (by decide +kernel)), ?_, List.mem_append_right _ (List.mem_of_getElem? (i := 2) (by decide +kernel))⟩
  intro a ha
  rcases ha with rfl | rfl
  · exact List.mem_append_right _ (List.mem_of_getElem? (i := 351) (by decide +kernel))
  · exact List.mem_append_right _ (List.mem_of_getElem? (i := 357) (by decide +kernel))
/-- what holds at the law's entry -/
theorem ct_entry {s : State} {b L : Nat} {xs : Nat → Int32} (hts : ∀ w ∈ lw_tbl, w.before #[Value.ref b] s = true) (hX : va_X b L xs s s.heap) (hbl : b < s.heap.size) (hgv : (Jvm.Cond.and given_1 narrow_1).before #[Value.ref b] s = true) :
    ∃ g : GG, CT s.heap.size g s s.heap ∧ gO g 0 = b ∧ (gN g 0 = L ∧ gF g 0 = xs) ∧ (gN g 1 = 6 ∧ gF g 1 = rowStep) ∧ (gN g 2 = 6 ∧ gF g 2 = colStep) := by
  have hs := flat_of_before _ hgv
  have hA : ∀ a : Nat, a < s.heap.size → ¬ s.heap.size ≤ a := fun a h => Nat.not_le.mpr h
  have hcl : ∀ c : Nat, ∃ q : ClassId × (Nat → Nat), c < 9 → u_Kn s (RC c) (TC c) (NC c) q.1 q.2 := by
    intro c
    by_cases h : c < 9
    · obtain ⟨cC, iS, hk⟩ := u_known (ws := Wg) (n := NC c) (fun w hw => hts w (wg_tbl w hw)) (cls_ok c h).2.1 (hts _ (wg_tbl _ (inst_ok h)))
      exact ⟨(cC, iS), fun _ => hk⟩
    · exact ⟨(0, fun _ => 0), fun h' => absurd h' h⟩
  have har : ∀ t : Nat, ∃ cA : ClassId, t < 3 → ArrOfT s cA (tyO t) ∧ va_RA s cA (tyO t) := by
    intro t
    by_cases h : t < 3
    · obtain ⟨cA, hk⟩ := arr_known hts h
      exact ⟨cA, fun _ => hk⟩
    · exact ⟨0, fun h' => absurd h' h⟩
  have hst : ∀ a, a = 1 ∨ a = 2 → ∃ t : Nat, (Term.static RX6 (staN a) "[I").eval #[Value.ref b] s none [] s = some (.ref t) ∧ va_T .int t 6 (fun j => .int (steN a j)) (fun q => s.heap.size ≤ q) s s.heap := by
    intro a ha
    obtain ⟨n1, n2, n3⟩ := nar_T a ha
    exact va_Tof (Nat.le_of_ble_eq_true rfl) (hs _ n1) (va_eqt (hs _ n2)) (fun j hj => va_eqt (hs _ (n3 j hj))) hA
  obtain ⟨fc, hfc⟩ := Classical.axiomOfChoice hcl
  obtain ⟨fa, hfa⟩ := Classical.axiomOfChoice har
  obtain ⟨t1, e1, T1⟩ := hst 1 (Or.inl rfl)
  obtain ⟨t2, e2, T2⟩ := hst 2 (Or.inr rfl)
  have T0 : va_T .int b L (fun j => .int (xs j)) (fun q => s.heap.size ≤ q) s s.heap := by
    obtain ⟨scr, h1, h2, h3, h4, h5⟩ := hX
    exact ⟨scr, h1, h2, h3, by omega, by rw [h4], h5, hA b hbl⟩
  refine ⟨(fun c => (fc c).1, fun c => (fc c).2, fa, fun j => if j = 0 then b else if j = 1 then t1 else t2, fun j => if j = 0 then L else 6, fun j => if j = 0 then xs else steN j), ⟨⟨fun c q hq => ?_, fun k q hk => ?_⟩, Nat.le_refl _, fun w h1 h2 => warmW_at h2 (State.WarmedH.refl s) (hts w h1), fun j hj => ?_, fun a ha => ?_, ?_, ?_, fun e he => ?_, fun t ht => ?_, fun i j hi hj hn => ?_⟩, rfl, ⟨rfl, rfl⟩, ⟨rfl, rfl⟩, rfl, rfl⟩
  · have hc : c < 9 := (List.getElem?_eq_some_iff.mp hq).1
    have h2 := (cls_ok c hc).1
    rw [h2] at hq
    cases hq
    exact hfc c hc
  · have hk5 : k < 3 := by
      have := (List.getElem?_eq_some_iff.mp hk).1
      simpa [gT] using this
    rw [gT_at _ hk5] at hk
    cases hk
    exact hfa k hk5
  · match j, hj with
    | 0, _ => exact T0
    | 1, _ => exact T1
    | 2, _ => exact T2
    | n + 3, h => exact absurd h (by omega)
  · have hZ : ∀ t : Nat, (Term.static RX6 (staN a) "[I").eval #[Value.ref b] s none [] s = some (.ref t) → va_Z RX6 (staN a) "[I" (.ref t) (fun q => s.heap.size ≤ q) s s.heap := fun t ht => va_Zof (hts _ (w_lays.2.2.2.1 a ha)) (hts _ w_lays.2.2.2.2) ht hA
    rcases ha with rfl | rfl
    · exact hZ t1 e1
    · exact hZ t2 e2
  · exact vx_Zqof (hts _ w_lays.1) (hts _ w_lays.2.2.1) (hs _ nar_U.1) hA
  · exact vx_Zqof (hts _ w_lays.2.1) (hts _ w_lays.2.2.1) (hs _ nar_U.2) hA
  · have h1 := of_decide_eq_true (List.all_eq_true.mp nar_S e he)
    obtain ⟨a, c, cA, kA, q1, -⟩ := Cond.exactly_spec (args := #[Value.ref b]) (first := s) (o := none) (s := s) (idx := []) (t := .string RX8 e.2.2.2.2.1) (cls := "java/lang/String") (hs _ h1)
    obtain ⟨u1, u2, u3, u4, u5, u6, u7, u8⟩ := e
    exact ⟨a, vk_R.of (hts _ (thr_ok _ he).2.2.2.2.1) q1⟩
  · rcases ht with rfl | rfl
    · exact va_AO.of (hts _ (arr_ok (6, 15, 1) (by decide +kernel)).2.1)
    · exact va_AO.of (hts _ (arr_ok (4, 9, 2) (by decide +kernel)).2.1)
  · have hi' : i ∈ [15, 21, 23] := by rcases hi with rfl | rfl | rfl <;> simp
    have hj' : j ∈ [15, 21, 23] := by rcases hj with rfl | rfl | rfl <;> simp
    have h1 := List.all_eq_true.mp (List.all_eq_true.mp nar_N i hi') j hj'
    simp only [Bool.or_eq_true, decide_eq_true_eq] at h1
    rcases h1 with h1 | h1
    · exact absurd h1 hn
    · exact va_Nc.of (hs _ h1)
end ENTRY
