/-! what keeps the sea right; the end of a round -/
theorem vS0 {α : Mem} {n i : Nat} {v : Int32} (h : v = 0 ∨ v = 1) : vS α n i 0 v := ⟨fun _ => h, fun q => absurd q (by decide), fun q => absurd q (by decide), fun q => absurd q (by decide), fun q => absurd q (by decide), fun q => absurd q (by decide), fun q => absurd q (by decide), fun q => absurd q (by decide), fun q => absurd q (by decide), fun q => absurd q (by decide), fun q => absurd q (by decide), fun q => absurd q (by decide), fun q => absurd q (by decide), fun q => absurd q (by decide), fun q => absurd q (by decide)⟩
theorem vS1 {α : Mem} {n i : Nat} {v : Int32} (h : 0 ≤ (v).toInt ∧ (v).toInt < (α 4 0).toInt * (α 4 1).toInt) : vS α n i 1 v := ⟨fun q => absurd q (by decide), fun _ => h, fun q => absurd q (by decide), fun q => absurd q (by decide), fun q => absurd q (by decide), fun q => absurd q (by decide), fun q => absurd q (by decide), fun q => absurd q (by decide), fun q => absurd q (by decide), fun q => absurd q (by decide), fun q => absurd q (by decide), fun q => absurd q (by decide), fun q => absurd q (by decide), fun q => absurd q (by decide), fun q => absurd q (by decide)⟩
theorem vS2 {α : Mem} {n i : Nat} {v : Int32} (h : ∃ e, e < 6 ∧ v = J e) : vS α n i 2 v := ⟨fun q => absurd q (by decide), fun q => absurd q (by decide), fun _ => h, fun q => absurd q (by decide), fun q => absurd q (by decide), fun q => absurd q (by decide), fun q => absurd q (by decide), fun q => absurd q (by decide), fun q => absurd q (by decide), fun q => absurd q (by decide), fun q => absurd q (by decide), fun q => absurd q (by decide), fun q => absurd q (by decide), fun q => absurd q (by decide), fun q => absurd q (by decide)⟩
theorem vS3 {α : Mem} {n i : Nat} {v : Int32} (h : 0 ≤ (v).toInt ∧ (v).toInt ≤ 60) : vS α n i 3 v := ⟨fun q => absurd q (by decide), fun q => absurd q (by decide), fun q => absurd q (by decide), fun _ => h, fun q => absurd q (by decide), fun q => absurd q (by decide), fun q => absurd q (by decide), fun q => absurd q (by decide), fun q => absurd q (by decide), fun q => absurd q (by decide), fun q => absurd q (by decide), fun q => absurd q (by decide), fun q => absurd q (by decide), fun q => absurd q (by decide), fun q => absurd q (by decide)⟩
theorem vS4 {α : Mem} {n i : Nat} {v : Int32} (h : 0 ≤ (v).toInt ∧ (v).toInt ≤ 20) : vS α n i 4 v := ⟨fun q => absurd q (by decide), fun q => absurd q (by decide), fun q => absurd q (by decide), fun q => absurd q (by decide), fun _ => h, fun q => absurd q (by decide), fun q => absurd q (by decide), fun q => absurd q (by decide), fun q => absurd q (by decide), fun q => absurd q (by decide), fun q => absurd q (by decide), fun q => absurd q (by decide), fun q => absurd q (by decide), fun q => absurd q (by decide), fun q => absurd q (by decide)⟩
theorem vS5 {α : Mem} {n i : Nat} {v : Int32} (h : 0 ≤ (v).toInt ∧ (v).toInt ≤ 12) : vS α n i 5 v := ⟨fun q => absurd q (by decide), fun q => absurd q (by decide), fun q => absurd q (by decide), fun q => absurd q (by decide), fun q => absurd q (by decide), fun _ => h, fun q => absurd q (by decide), fun q => absurd q (by decide), fun q => absurd q (by decide), fun q => absurd q (by decide), fun q => absurd q (by decide), fun q => absurd q (by decide), fun q => absurd q (by decide), fun q => absurd q (by decide), fun q => absurd q (by decide)⟩
theorem vS6 {α : Mem} {n i : Nat} {v : Int32} (h : 0 ≤ (v).toInt ∧ (v).toInt ≤ 12) : vS α n i 6 v := ⟨fun q => absurd q (by decide), fun q => absurd q (by decide), fun q => absurd q (by decide), fun q => absurd q (by decide), fun q => absurd q (by decide), fun q => absurd q (by decide), fun _ => h, fun q => absurd q (by decide), fun q => absurd q (by decide), fun q => absurd q (by decide), fun q => absurd q (by decide), fun q => absurd q (by decide), fun q => absurd q (by decide), fun q => absurd q (by decide), fun q => absurd q (by decide)⟩
theorem vS7 {α : Mem} {n i : Nat} {v : Int32} (h : 1 ≤ (v).toInt ∧ (v).toInt ≤ 60) : vS α n i 7 v := ⟨fun q => absurd q (by decide), fun q => absurd q (by decide), fun q => absurd q (by decide), fun q => absurd q (by decide), fun q => absurd q (by decide), fun q => absurd q (by decide), fun q => absurd q (by decide), fun _ => h, fun q => absurd q (by decide), fun q => absurd q (by decide), fun q => absurd q (by decide), fun q => absurd q (by decide), fun q => absurd q (by decide), fun q => absurd q (by decide), fun q => absurd q (by decide)⟩
theorem vS8 {α : Mem} {n i : Nat} {v : Int32} (h : 1 ≤ (v).toInt ∧ (v).toInt ≤ 60) : vS α n i 8 v := ⟨fun q => absurd q (by decide), fun q => absurd q (by decide), fun q => absurd q (by decide), fun q => absurd q (by decide), fun q => absurd q (by decide), fun q => absurd q (by decide), fun q => absurd q (by decide), fun q => absurd q (by decide), fun _ => h, fun q => absurd q (by decide), fun q => absurd q (by decide), fun q => absurd q (by decide), fun q => absurd q (by decide), fun q => absurd q (by decide), fun q => absurd q (by decide)⟩
theorem vS9 {α : Mem} {n i : Nat} {v : Int32} (h : 0 ≤ (v).toInt ∧ (v).toInt ≤ 9) : vS α n i 9 v := ⟨fun q => absurd q (by decide), fun q => absurd q (by decide), fun q => absurd q (by decide), fun q => absurd q (by decide), fun q => absurd q (by decide), fun q => absurd q (by decide), fun q => absurd q (by decide), fun q => absurd q (by decide), fun q => absurd q (by decide), fun _ => h, fun q => absurd q (by decide), fun q => absurd q (by decide), fun q => absurd q (by decide), fun q => absurd q (by decide), fun q => absurd q (by decide)⟩
theorem vS10 {α : Mem} {n i : Nat} {v : Int32} (h : 0 ≤ (v).toInt ∧ (v).toInt ≤ 2) : vS α n i 10 v := ⟨fun q => absurd q (by decide), fun q => absurd q (by decide), fun q => absurd q (by decide), fun q => absurd q (by decide), fun q => absurd q (by decide), fun q => absurd q (by decide), fun q => absurd q (by decide), fun q => absurd q (by decide), fun q => absurd q (by decide), fun q => absurd q (by decide), fun _ => h, fun q => absurd q (by decide), fun q => absurd q (by decide), fun q => absurd q (by decide), fun q => absurd q (by decide)⟩
theorem vS11 {α : Mem} {n i : Nat} {v : Int32} (h : 0 ≤ (v).toInt ∧ (v).toInt ≤ 2) : vS α n i 11 v := ⟨fun q => absurd q (by decide), fun q => absurd q (by decide), fun q => absurd q (by decide), fun q => absurd q (by decide), fun q => absurd q (by decide), fun q => absurd q (by decide), fun q => absurd q (by decide), fun q => absurd q (by decide), fun q => absurd q (by decide), fun q => absurd q (by decide), fun q => absurd q (by decide), fun _ => h, fun q => absurd q (by decide), fun q => absurd q (by decide), fun q => absurd q (by decide)⟩
theorem vS12 {α : Mem} {n i : Nat} {v : Int32} (h : v = -1 ∨ ∃ j, j < n ∧ j ≠ i ∧ v = J j) : vS α n i 12 v := ⟨fun q => absurd q (by decide), fun q => absurd q (by decide), fun q => absurd q (by decide), fun q => absurd q (by decide), fun q => absurd q (by decide), fun q => absurd q (by decide), fun q => absurd q (by decide), fun q => absurd q (by decide), fun q => absurd q (by decide), fun q => absurd q (by decide), fun q => absurd q (by decide), fun q => absurd q (by decide), fun _ => h, fun q => absurd q (by decide), fun q => absurd q (by decide)⟩
theorem vS13 {α : Mem} {n i : Nat} {v : Int32} (h : v = 0 ∨ v = 1) : vS α n i 13 v := ⟨fun q => absurd q (by decide), fun q => absurd q (by decide), fun q => absurd q (by decide), fun q => absurd q (by decide), fun q => absurd q (by decide), fun q => absurd q (by decide), fun q => absurd q (by decide), fun q => absurd q (by decide), fun q => absurd q (by decide), fun q => absurd q (by decide), fun q => absurd q (by decide), fun q => absurd q (by decide), fun q => absurd q (by decide), fun _ => h, fun q => absurd q (by decide)⟩
theorem vS14 {α : Mem} {n i : Nat} {v : Int32} (h : v = 0 ∨ v = 1) : vS α n i 14 v := ⟨fun q => absurd q (by decide), fun q => absurd q (by decide), fun q => absurd q (by decide), fun q => absurd q (by decide), fun q => absurd q (by decide), fun q => absurd q (by decide), fun q => absurd q (by decide), fun q => absurd q (by decide), fun q => absurd q (by decide), fun q => absurd q (by decide), fun q => absurd q (by decide), fun q => absurd q (by decide), fun q => absurd q (by decide), fun q => absurd q (by decide), fun _ => h⟩
theorem sub_ti {x y : Int32} (h : -2147483648 ≤ x.toInt - y.toInt) (h2 : x.toInt - y.toInt ≤ 2147483647) : (x - y).toInt = x.toInt - y.toInt := by
  rw [Int32.toInt_sub]; exact Int.bmod_eq_of_le (by omega) (by omega)
theorem add_ti {x y : Int32} (h : -2147483648 ≤ x.toInt + y.toInt) (h2 : x.toInt + y.toInt ≤ 2147483647) : (x + y).toInt = x.toInt + y.toInt := by
  rw [Int32.toInt_add]; exact Int.bmod_eq_of_le (by omega) (by omega)
theorem mx_ti (x y : Int32) : (mxC x y).toInt = if x.toInt < y.toInt then y.toInt else x.toInt := by
  unfold mxC
  simp only [i32_lt]
  split <;> rfl
theorem mn_ti (x y : Int32) : (mnC x y).toInt = if y.toInt < x.toInt then y.toInt else x.toInt := by
  unfold mnC
  simp only [i32_lt]
  split <;> rfl
theorem J_rng {v : Int32} {k : Nat} (h : 0 ≤ v.toInt) (h2 : v.toInt < k) : ∃ j, j < k ∧ v = J j :=
  ⟨v.toNatClampNeg, by unfold Int32.toNatClampNeg; omega, (J_of h).symm⟩
theorem spd_tab : ∀ f, f < 4 → ∀ w, w < 4 → ∀ s, s < 21 → 0 ≤ ((J f * J w * J s + 19) / 20).toInt ∧ ((J f * J w * J s + 19) / 20).toInt ≤ 9 := by decide +kernel
theorem fac_lt (a : Nat) : facN a < 4 := by unfold facN; split <;> omega
theorem spd_bd {α : Mem} {n : Nat} (H : Ok α n) {i : Nat} (hi : i < n) (h b : Nat) : 0 ≤ (spdC α (7 + i) h b).toInt ∧ (spdC α (7 + i) h b).toInt ≤ 9 := by
  obtain ⟨w, hw, ew⟩ := J_rng (k := 4) H.ws.1 (by have := H.ws.2; omega)
  obtain ⟨s, hs, es⟩ := J_rng (k := 21) (H.sails i hi).1 (by have := (H.sails i hi).2; omega)
  unfold spdC
  rw [ew, es]
  exact spd_tab _ (fac_lt _) w hw s hs
theorem up2_a (α : Mem) (a k m : Nat) (v : Int32) : up2 α a k v a m = if m = k then v else α a m := by
  rw [up2_at]; unfold upd; rfl
theorem Ok.pred {α : Mem} {n : Nat} (H : Ok α n) {i : Nat} (hi : i < n) (hp : 0 < α (7 + i) 9) : vS α n i 9 (α (7 + i) 9 - 1) := by
  have h := H.pts i hi
  rw [i32_lt, ti0] at hp
  have e := sub_ti (x := α (7 + i) 9) (y := 1) (by rw [ti1]; omega) (by rw [ti1]; omega)
  rw [ti1] at e
  exact vS9 ⟨by omega, by omega⟩
theorem Ok.up' {α : Mem} {n : Nat} (H : Ok α n) {i k : Nat} {v : Int32} (α0 : Mem) (h0 : ∀ k, α0 4 k = α 4 k) (hv : vS α0 n i k v) : Ok (up2 α (7 + i) k v) n := by
  refine H.up ?_
  unfold vS at hv ⊢
  rw [h0, h0] at hv
  exact hv
theorem Ok_move {α : Mem} {n : Nat} (H : Ok α n) {i : Nat} (hi : i < n) (hm : canMoveC α n i) : Ok (moveC α i) n := by
  have hc := hm.2.2.1
  unfold moveC
  refine Ok.up' (Ok.up' (H.up (cell_v H hc)) α (fun k => (up2_4 ..).symm) (H.pred hi hm.1.2.2.2)) α (fun k => by rw [up2_4, up2_4]) (vS14 (Or.inr rfl))
theorem Ok_swing {α : Mem} {n : Nat} (H : Ok α n) {i : Nat} (hi : i < n) {r : Int32} (hm : canSwingC α i r) : Ok (swingC α (7 + i) (J (hdN (hdA α (7 + i)) r))) n := by
  unfold swingC
  refine Ok.up' (Ok.up' (H.up (vS2 ⟨_, hdN_lt _ _, rfl⟩)) α (fun k => (up2_4 ..).symm) (H.pred hi hm.1.2.2.2)) α (fun k => by rw [up2_4, up2_4]) (vS14 (Or.inl rfl))
theorem Ok_drift {α : Mem} {n : Nat} (H : Ok α n) {i : Nat} (hd : driftsC α n i) : Ok (driftC α i) n := H.up (cell_v H hd.2.2.2.2.1)
theorem Ok_ready {α : Mem} {n : Nat} (H : Ok α n) {i : Nat} (hi : i < n) : Ok (readyC α (7 + i)) n := by
  unfold readyC
  have hb := spd_bd H hi (hdA α (7 + i)) (wdN α)
  refine Ok.up' (Ok.up' (H.up (vS9 ?_)) α (fun k => (up2_4 ..).symm) (vS14 (Or.inl rfl))) α (fun k => by rw [up2_4, up2_4]) (vS13 (Or.inl rfl))
  rw [mx_ti]
  split <;> split <;> first | omega | (rw [ti1]; omega) | (rw [ti0]; omega) | skip
theorem Ok_short {α : Mem} {n : Nat} (H : Ok α n) {i : Nat} (hi : i < n) : Ok (shortC α (7 + i)) n := by
  unfold shortC
  have h1 := H.wl i hi
  have h2 := H.wr i hi
  have e1 := sub_ti (x := α (7 + i) 10) (y := 1) (by rw [ti1]; omega) (by rw [ti1]; omega)
  have e2 := sub_ti (x := α (7 + i) 11) (y := 1) (by rw [ti1]; omega) (by rw [ti1]; omega)
  rw [ti1] at e1 e2
  refine Ok.up' (H.up (vS10 ?_)) α (fun k => (up2_4 ..).symm) (vS11 ?_)
  · rw [mx_ti, e1, ti0]; split <;> omega
  · rw [mx_ti, e2, ti0]; split <;> omega
theorem up2_44 (α : Mem) (k m : Nat) (v : Int32) : up2 α 4 k v 4 m = if m = k then v else α 4 m := up2_a ..
theorem up2_45 (α : Mem) (k m : Nat) (v : Int32) : up2 α 4 k v 5 m = α 5 m := by rw [up2_ne α (by omega)]
theorem up2_4s (α : Mem) (k i m : Nat) (v : Int32) : up2 α 4 k v (7 + i) m = α (7 + i) m := by rw [up2_ne α (by omega)]
theorem Ok_round {α : Mem} {n : Nat} (H : Ok α n) (v : Int32) : Ok (up2 α 4 4 v) n := by
  unfold Ok
  simp only [up2_44, up2_45, up2_4s]
  exact H
theorem Ok_wind {α : Mem} {n : Nat} (H : Ok α n) {e : Nat} (he : e < 6) : Ok (up2 α 4 2 (J e)) n := by
  unfold Ok
  simp only [up2_44, up2_45, up2_4s]
  exact ⟨H.cols, H.rows, ⟨e, he, rfl⟩, H.2.2.2⟩
theorem Ok_strength {α : Mem} {n : Nat} (H : Ok α n) {v : Int32} (hv : 0 ≤ v.toInt ∧ v.toInt ≤ 3) : Ok (up2 α 4 3 v) n := by
  unfold Ok
  simp only [up2_44, up2_45, up2_4s]
  exact ⟨H.cols, H.rows, H.wd, hv, H.2.2.2.2⟩
/-- drifting, from ship i on: the sea behind, and how many -/
def dr1 (n : Nat) : Nat → Nat → Mem → Int32 → Mem × Int32
  | 0, _, α, v => (α, v)
  | k + 1, i, α, v => if driftsC α n i then dr1 n k (i + 1) (driftC α i) (v + 1) else dr1 n k (i + 1) α v
def dr2 : Nat → Nat → Mem → Mem
  | 0, _, α => α
  | k + 1, i, α => dr2 k (i + 1) (readyC (shortC α (7 + i)) (7 + i))
theorem Ok_dr1 (n : Nat) : ∀ k i α v, i + k = n → Ok α n → Ok (dr1 n k i α v).1 n := by
  intro k
  induction k with
  | zero => intro i α v _ H; exact H
  | succ k ih =>
    intro i α v hi H
    unfold dr1
    split
    · next q => exact ih _ _ _ (by omega) (Ok_drift H q)
    · exact ih _ _ _ (by omega) H
theorem Ok_dr2 (n : Nat) : ∀ k i α, i + k = n → Ok α n → Ok (dr2 k i α) n := by
  intro k
  induction k with
  | zero => intro i α _ H; exact H
  | succ k ih =>
    intro i α hi H
    unfold dr2
    exact ih _ _ (by omega) (Ok_ready (Ok_short H (by omega)) (by omega))
def finC (α : Mem) (n : Nat) : Mem := dr2 n 0 (up2 (dr1 n n 0 α 0).1 4 4 ((dr1 n n 0 α 0).1 4 4 + 1))
theorem Ok_fin {α : Mem} {n : Nat} (H : Ok α n) : Ok (finC α n) n := Ok_dr2 n n 0 _ (by omega) (Ok_round (Ok_dr1 n n 0 α 0 (by omega) H) _)
section S28
variable {z : Zr} {α β γ : Mem} {π : Nat → Nat} {η : Int64} {o : Nat → Int64} {od : Nat → UInt64} {n : Nat}
theorem s24_a : ∀ k i (α : Mem) v, i + k = n → Ok α n → Run 24 4 [some (.ref (61)), some (.int (v)), some (.int (J i))] [] (HC z α π β η o od) = Run 24 46 [some (.ref (61)), some (.int ((dr1 n k i α v).2)), some (.int (J n))] [] (HC z (dr1 n k i α v).1 π β η o od) := by
  intro k
  induction k with
  | zero =>
    intro i α v hi H
    have h8 := H.n8
    have : i = n := by omega
    subst this
    simp only [e24_0, e24_1, e24_2, e24_3, e24_4, e24_5, e24_6, e24_9, e24_12, e24_15, e24_16, e24_18, e24_21, e24_22, e24_23, e24_26, e24_29, e24_30, e24_31, e24_34, e24_37, e24_40, e24_43, e24_47, e24_50, e24_51, e24_54, e24_55, e24_56, e24_59, e24_60, e24_61, e24_62, e24_63, e24_66, e24_69, e24_72, e24_73, e24_75, e24_78, e24_79, e24_82, e24_85, e24_86, e24_87, e24_90, e24_91, e24_92, e24_95, e24_98, e24_99, e24_100, e24_103, e24_106, e24_109, e24_110, gf3_0 kd61, gf6_5 kd4, H.hn, J_le (show i < 2147483648 by omega) (show i < 2147483648 by omega), Nat.le_refl, dr1, aft_v, aft_n, Option.bind_some, rf_some, ck_i, ck_r, ck_n, nb0, nb1, nbi, Nat.reduceAdd, if_true, if_false, not_false_eq_true, not_true_eq_false]
  | succ k ih =>
    intro i α v hi H
    have h8 := H.n8
    rw [e24_4]
    have e : Run 25 0 [some (.ref (61)), some (.ref (7 + i)), none] [] (HC z α π β η o od) = _ := s25 H (show i < n by omega)
    by_cases hd : driftsC α n i
    · rw [if_pos hd] at e
      simp only [e24_0, e24_1, e24_2, e24_3, e24_5, e24_6, e24_9, e24_12, e24_15, e24_16, e24_18, e24_21, e24_22, e24_23, e24_26, e24_29, e24_30, e24_31, e24_34, e24_37, e24_40, e24_43, e24_47, e24_50, e24_51, e24_54, e24_55, e24_56, e24_59, e24_60, e24_61, e24_62, e24_63, e24_66, e24_69, e24_72, e24_73, e24_75, e24_78, e24_79, e24_82, e24_85, e24_86, e24_87, e24_90, e24_91, e24_92, e24_95, e24_98, e24_99, e24_100, e24_103, e24_106, e24_109, e24_110, isO61, gf3_0 kd61, J_le (show n < 2147483648 by omega) (show i < 2147483648 by omega), show ¬ n ≤ i by omega, (show (8 : Int32) = J 8 from rfl), J_le (show 8 < 2147483648 by omega) (show i < 2147483648 by omega), show ¬ 8 ≤ i by omega, gaR21 kd6 (inB_J (show i < 8 by omega) (by omega)), J_tn (show i < 2147483648 by omega), isS (show i < 8 by omega), J_succ, gf6_5 kd4, gf6_7 kd4, H.hn, e, i1_0, aft_v, aft_n, Option.bind_some, rf_some, ck_i, ck_r, ck_n, nb0, nb1, nbi, Nat.reduceAdd, if_true, if_false, not_false_eq_true, not_true_eq_false]
      rw [ih (i + 1) (driftC α i) (v + 1) (by omega) (Ok_drift H hd)]
      simp only [dr1, hd, aft_v, aft_n, Option.bind_some, rf_some, ck_i, ck_r, ck_n, nb0, nb1, nbi, Nat.reduceAdd, if_true, if_false, not_false_eq_true, not_true_eq_false]
      rw [if_pos hd]
    · rw [if_neg hd] at e
      simp only [e24_0, e24_1, e24_2, e24_3, e24_5, e24_6, e24_9, e24_12, e24_15, e24_16, e24_18, e24_21, e24_22, e24_23, e24_26, e24_29, e24_30, e24_31, e24_34, e24_37, e24_40, e24_43, e24_47, e24_50, e24_51, e24_54, e24_55, e24_56, e24_59, e24_60, e24_61, e24_62, e24_63, e24_66, e24_69, e24_72, e24_73, e24_75, e24_78, e24_79, e24_82, e24_85, e24_86, e24_87, e24_90, e24_91, e24_92, e24_95, e24_98, e24_99, e24_100, e24_103, e24_106, e24_109, e24_110, isO61, gf3_0 kd61, J_le (show n < 2147483648 by omega) (show i < 2147483648 by omega), show ¬ n ≤ i by omega, (show (8 : Int32) = J 8 from rfl), J_le (show 8 < 2147483648 by omega) (show i < 2147483648 by omega), show ¬ 8 ≤ i by omega, gaR21 kd6 (inB_J (show i < 8 by omega) (by omega)), J_tn (show i < 2147483648 by omega), isS (show i < 8 by omega), J_succ, gf6_5 kd4, gf6_7 kd4, H.hn, e, aft_v, aft_n, Option.bind_some, rf_some, ck_i, ck_r, ck_n, nb0, nb1, nbi, Nat.reduceAdd, if_true, if_false, not_false_eq_true, not_true_eq_false]
      rw [ih (i + 1) α v (by omega) H]
      simp only [dr1]
      rw [if_neg hd]
theorem s24_b : ∀ k i (α : Mem) v, i + k = n → Ok α n → Run 24 61 [some (.ref (61)), some (.int (v)), some (.int (J i))] [] (HC z α π β η o od) = some (.inl (some (.int (v))), (HC z (dr2 k i α) π β η o od)) := by
  intro k
  induction k with
  | zero =>
    intro i α v hi H
    have h8 := H.n8
    have : i = n := by omega
    subst this
    simp only [e24_0, e24_1, e24_2, e24_3, e24_4, e24_5, e24_6, e24_9, e24_12, e24_15, e24_16, e24_18, e24_21, e24_22, e24_23, e24_26, e24_29, e24_30, e24_31, e24_34, e24_37, e24_40, e24_43, e24_46, e24_47, e24_50, e24_51, e24_54, e24_55, e24_56, e24_59, e24_60, e24_61, e24_62, e24_63, e24_66, e24_69, e24_72, e24_73, e24_75, e24_78, e24_79, e24_82, e24_85, e24_86, e24_87, e24_90, e24_91, e24_92, e24_95, e24_98, e24_99, e24_100, e24_103, e24_106, e24_109, e24_110, gf3_0 kd61, gf6_5 kd4, H.hn, J_le (show i < 2147483648 by omega) (show i < 2147483648 by omega), Nat.le_refl, dr2, aft_v, aft_n, Option.bind_some, rf_some, ck_i, ck_r, ck_n, nb0, nb1, nbi, Nat.reduceAdd, if_true, if_false, not_false_eq_true, not_true_eq_false]
  | succ k ih =>
    intro i α v hi H
    have h8 := H.n8
    have H2 := Ok_short H (show i < n by omega)
    rw [e24_61]
    have hk4 : ∀ m, shortC α (7 + i) 4 m = α 4 m := fun m => by unfold shortC; rw [up2_4, up2_4]
    simp only [e24_0, e24_1, e24_2, e24_3, e24_5, e24_6, e24_9, e24_12, e24_15, e24_16, e24_18, e24_21, e24_22, e24_23, e24_26, e24_29, e24_30, e24_31, e24_34, e24_37, e24_40, e24_43, e24_46, e24_47, e24_50, e24_51, e24_54, e24_55, e24_56, e24_59, e24_60, e24_62, e24_63, e24_66, e24_69, e24_72, e24_73, e24_75, e24_78, e24_79, e24_82, e24_85, e24_86, e24_87, e24_90, e24_91, e24_92, e24_95, e24_98, e24_99, e24_100, e24_103, e24_106, e24_109, e24_110, isO61, gf3_0 kd61, J_le (show n < 2147483648 by omega) (show i < 2147483648 by omega), show ¬ n ≤ i by omega, (show (8 : Int32) = J 8 from rfl), J_le (show 8 < 2147483648 by omega) (show i < 2147483648 by omega), show ¬ 8 ≤ i by omega, gaR21 kd6 (inB_J (show i < 8 by omega) (by omega)), J_tn (show i < 2147483648 by omega), isS (show i < 8 by omega), J_succ, gf6_5 kd4, gf6_7 kd4, H.hn, s81 (kd_ship (show i < 8 by omega)), s23 H2 (show i < n by omega), aft_v, aft_n, Option.bind_some, rf_some, ck_i, ck_r, ck_n, nb0, nb1, nbi, Nat.reduceAdd, if_true, if_false, not_false_eq_true, not_true_eq_false]
    rw [ih (i + 1) _ v (by omega) (Ok_ready H2 (by omega))]
    rfl
theorem s24 (H : Ok α n) : Run 24 0 [some (.ref (61)), none, none] [] (HC z α π β η o od) = some (.inl (some (.int ((dr1 n n 0 α 0).2))), (HC z (finC α n) π β η o od)) := by
  have H1 := Ok_dr1 n n 0 α 0 (by omega) H
  have e := s24_a (z := z) (β := β) (π := π) (η := η) (o := o) (od := od) n 0 α 0 (by omega) H
  simp only [e24_0, e24_1, e24_2, e24_3, show (0 : Int32) = J 0 from rfl, aft_v, aft_n, Option.bind_some, rf_some, ck_i, ck_r, ck_n, nb0, nb1, nbi, Nat.reduceAdd, if_true, if_false, not_false_eq_true, not_true_eq_false]
  rw [show J 0 = (0 : Int32) from rfl] at e ⊢
  rw [e]
  have e2 := s24_b (z := z) (β := β) (π := π) (η := η) (o := o) (od := od) n 0 _ (dr1 n n 0 α 0).2 (by omega) (Ok_round H1 ((dr1 n n 0 α 0).1 4 4 + 1))
  rw [show J 0 = (0 : Int32) from rfl] at e2
  simp only [e24_0, e24_1, e24_2, e24_3, e24_5, e24_6, e24_9, e24_12, e24_15, e24_16, e24_18, e24_21, e24_22, e24_23, e24_26, e24_29, e24_30, e24_31, e24_34, e24_37, e24_40, e24_43, e24_46, e24_47, e24_50, e24_51, e24_54, e24_55, e24_56, e24_59, e24_60, e24_62, e24_63, e24_66, e24_69, e24_72, e24_73, e24_75, e24_78, e24_79, e24_82, e24_85, e24_86, e24_87, e24_90, e24_91, e24_92, e24_95, e24_98, e24_99, e24_100, e24_103, e24_106, e24_109, e24_110, gf3_0 kd61, gf6_4 kd4, pf6_4 kd4, e2, aft_v, aft_n, Option.bind_some, rf_some, ck_i, ck_r, ck_n, nb0, nb1, nbi, Nat.reduceAdd, if_true, if_false, not_false_eq_true, not_true_eq_false]
  rfl
end S28
