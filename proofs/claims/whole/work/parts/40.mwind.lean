/-! the model: wind, speed, writes -/
theorem ang_m : ∀ a, a < 6 → ∀ b, b < 6 → (if J a - J b + 6 - (J a - J b + 6) / 6 * 6 ≤ 3 then J a - J b + 6 - (J a - J b + 6) / 6 * 6 else 6 - (J a - J b + 6 - (J a - J b + 6) / 6 * 6)) = J (angN a b) := by decide
theorem q6 : ¬ (6 : Int32) = 0 := by decide
theorem q20 : ¬ (20 : Int32) = 0 := by decide
theorem trn : ∀ h, h < 6 → (J h + 1 - (J h + 1) / 6 * 6 = J ((h + 1) % 6)) ∧ (J h + 5 - (J h + 5) / 6 * 6 = J ((h + 5) % 6)) := by decide
theorem slM_inj : ∀ a, a < 15 → ∀ b, b < 15 → slM a = slM b → a = b := by decide
theorem Rm_put {q : Nat → Int32} {α : Mem} {n : Nat} (R : Rm q α n) {i k : Nat} (hi : i < 8) (hk : k < 15) (v : Int32) : Rm (upd q (6 + 15 * i + k) v) (up2 α (7 + i) (slM k) v) n := by
  refine ⟨fun m hm => ?_, fun c hc => ?_, fun j hj m hm => ?_⟩
  · rw [upd_ne _ (by omega), up2_4]; exact R.1 m hm
  · rw [upd_ne _ (by omega), up2_5]; exact R.2.1 c hc
  · rw [up2_s]
    by_cases h : j = i ∧ m = k
    · obtain ⟨rfl, rfl⟩ := h
      rw [if_pos ⟨rfl, rfl⟩, upd_at]
    · have h2 : ¬ (j = i ∧ slM m = slM k) := fun w => h ⟨w.1, slM_inj m hm k hk w.2⟩
      rw [if_neg h2, upd_ne _ (by omega)]
      exact R.2.2 j hj m hm
/-- only the model's page may have changed -/
def Md (β β' : Mem) : Prop := ∀ j, j ≠ 71 → β' j = β j
theorem Md_r (β : Mem) : Md β β := fun _ _ => rfl
theorem Md_up {β β' : Mem} (h : Md β β') (k : Nat) (v : Int32) : Md β (up2 β' 71 k v) := fun j hj => by rw [up2_ne _ hj]; exact h j hj
theorem Rm_up {β α : Mem} {n : Nat} (R : Rm (β 71) α n) {i k : Nat} (hi : i < 8) (hk : k < 15) (v : Int32) : Rm (up2 β 71 (6 + 15 * i + k) v 71) (up2 α (7 + i) (slM k) v) n := by
  rw [up2_at]; exact Rm_put R hi hk v
section S40
variable {z : Zr} {α β γ : Mem} {π : Nat → Nat} {η : Int64} {o : Nat → Int64} {od : Nat → UInt64} {n k : Nat}
theorem s143 {a b : Nat} (ha : a < 6) (hb : b < 6) : Run 143 0 [some (.int (J a)), some (.int (J b)), none] [] (HC z γ π β η o od) = some (.inl (some (.int (J (angN a b)))), (HC z γ π β η o od)) := by
  rw [← ang_m a ha b hb]
  simp only [↓reduceIte, e143_0, e143_1, e143_2, e143_3, e143_5, e143_6, e143_8, e143_9, e143_10, e143_11, e143_12, e143_15, e143_17, e143_18, e143_19, e143_22, e143_23, q6, aft_v, aft_n, Option.bind_some, rf_some, ck_i, ck_r, ck_n, nb0, nb1, nbi, Nat.reduceAdd, if_true, if_false, not_false_eq_true, not_true_eq_false]
  by_cases q : J a - J b + 6 - (J a - J b + 6) / 6 * 6 ≤ 3 <;> simp only [q, aft_v, aft_n, Option.bind_some, rf_some, ck_i, ck_r, ck_n, nb0, nb1, nbi, Nat.reduceAdd, if_true, if_false, not_false_eq_true, not_true_eq_false]
theorem s144 (H : Ok α n) (R : Rm (β 71) α n) {i b : Nat} (hi : i < n) (hb : b < 6) : Run 144 0 [some (.ref (70)), some (.int (J i)), some (.int (J b)), none, none] [] (HC z γ π β η o od) = some (.inl (some (.int (spdC α (7 + i) (hdA α (7 + i)) b))), (HC z γ π β η o od)) := by
  have hd := H.hdJ hi
  have h3 := ang_le _ hd.1 b hb
  have e : Run 143 0 [some (.int (α (7 + i) 2)), some (.int (J b)), none] [] (HC z γ π β η o od) = some (.inl (some (.int (J (angN (hdA α (7 + i)) b)))), (HC z γ π β η o od)) := by rw [hd.2]; exact s143 hd.1 hb
  unfold spdC
  have h : angN (hdA α (7 + i)) b = 0 ∨ angN (hdA α (7 + i)) b = 1 ∨ angN (hdA α (7 + i)) b = 2 ∨ angN (hdA α (7 + i)) b = 3 := by omega
  rcases h with h | h | h | h
  all_goals (rw [h] at e ⊢; simp only [↓reduceIte, e144_0, e144_1, e144_2, e144_3, e144_6, e144_7, e144_10, e144_11, e144_12, e144_15, e144_16, e144_19, e144_20, e144_21, e144_24, e144_25, e144_28, e144_29, e144_30, e144_33, e144_34, e144_37, e144_38, e144_40, e144_42, e144_43, e144_46, e144_47, e144_48, e144_49, e144_50, e144_51, e144_52, e144_55, e144_56, e144_58, e144_59, e144_61, e144_62, gf9_0 kd_70, isO70, s125_2 R H.n8 hi, s125_4 R H.n8 hi, e, m71_3 R, show (J 0 : Int32) = 0 from rfl, show (J 1 : Int32) = 1 from rfl, show (J 2 : Int32) = 2 from rfl, show (J 3 : Int32) = 3 from rfl, facN, q20, ln0_1, ln0_2, ln0_3, ln0_4, ln0_5, ln1_0, ln1_2, ln1_3, ln1_4, ln1_5, ln2_0, ln2_1, ln2_3, ln2_4, ln2_5, ln3_0, ln3_1, ln3_2, ln3_4, ln3_5, ln4_0, ln4_1, ln4_2, ln4_3, ln4_5, ln5_0, ln5_1, ln5_2, ln5_3, ln5_4, aft_v, aft_n, Option.bind_some, rf_some, ck_i, ck_r, ck_n, nb0, nb1, nbi, Nat.reduceAdd, if_true, if_false, not_false_eq_true, not_true_eq_false])
theorem s145 (H : Ok α n) (R : Rm (β 71) α n) {i : Nat} (hi : i < n) : Run 145 0 [some (.ref (70)), some (.int (J i))] [] (HC z γ π β η o od) = some (.inl (some (.int (spdC α (7 + i) (hdA α (7 + i)) (wdN α)))), (HC z γ π β η o od)) := by
  simp only [e145_0, e145_1, e145_2, e145_3, e145_6, e145_7, e145_8, e145_11, gf9_0 kd_70, isO70, m71_2 R, H.wdJ.2, s144 H R hi H.wdJ.1, aft_v, aft_n, Option.bind_some, rf_some, ck_i, ck_r, ck_n, nb0, nb1, nbi, Nat.reduceAdd, if_true, if_false, not_false_eq_true, not_true_eq_false]
theorem s146 (H : Ok α n) (R : Rm (β 71) α n) {i : Nat} (hi : i < n) : ∃ β', Run 146 0 [some (.ref (70)), some (.int (J i)), none] [] (HC z γ π β η o od) = some (.inl none, (HC z γ π β' η o od)) ∧ Rm (β' 71) (readyC α (7 + i)) n ∧ Md β β' := by
  have h8 := H.n8
  have hi8 : i < 8 := by omega
  have hb := spd_bd H hi (hdA α (7 + i)) (wdN α)
  have hv : mxC (if 0 < α (7 + i) 4 then 1 else 0) (spdC α (7 + i) (hdA α (7 + i)) (wdN α)) = if spdC α (7 + i) (hdA α (7 + i)) (wdN α) = 0 then (if 0 < α (7 + i) 4 then 1 else spdC α (7 + i) (hdA α (7 + i)) (wdN α)) else spdC α (7 + i) (hdA α (7 + i)) (wdN α) := by
    rw [i32_eq, mx_ti]
    simp only [i32_eq (spdC α (7 + i) (hdA α (7 + i)) (wdN α)) 0, ti0]
    (repeat' split) <;> (try rw [ti1] at *) <;> (try rw [ti0] at *) <;> omega
  refine ⟨_, ?_, ?_, Md_up (Md_up (Md_up (Md_r β) (6 + 15 * i + 8) (mxC (if 0 < α (7 + i) 4 then 1 else 0) (spdC α (7 + i) (hdA α (7 + i)) (wdN α)))) (6 + 15 * i + 13) 0) (6 + 15 * i + 14) 0⟩
  · rw [hv]
    by_cases q1 : spdC α (7 + i) (hdA α (7 + i)) (wdN α) = 0 <;> by_cases q2 : 0 < α (7 + i) 4 <;> simp only [↓reduceIte, e146_0, e146_1, e146_2, e146_5, e146_6, e146_7, e146_8, e146_10, e146_11, e146_14, e146_15, e146_16, e146_17, e146_20, e146_23, e146_24, e146_27, e146_28, e146_31, e146_32, e146_33, e146_35, e146_36, e146_39, e146_40, e146_41, e146_43, e146_44, e146_47, isO70, s145 H R hi, s125_4 R h8 hi, q1, q2, le_not, s126_8 hi8, s126_13 hi8, s126_14 hi8, aft_v, aft_n, Option.bind_some, rf_some, ck_i, ck_r, ck_n, nb0, nb1, nbi, Nat.reduceAdd, if_true, if_false, not_false_eq_true, not_true_eq_false]
  · exact Rm_up (Rm_up (Rm_up R hi8 (k := 8) (by decide) _) hi8 (k := 13) (by decide) 0) hi8 (k := 14) (by decide) 0
theorem s158 (R : Rm (β 71) α n) (h8 : n ≤ 8) {i : Nat} (hi : i < n) : Run 158 0 [some (.ref (70)), some (.int (J i))] [] (HC z γ π β η o od) = some (.inl (some (.int (bi (canSailC α (7 + i))))), (HC z γ π β η o od)) := by
  unfold canSailC
  rw [bi]
  simp only [↓reduceIte, e158_0, e158_1, e158_2, e158_5, e158_8, e158_9, e158_10, e158_11, e158_14, e158_17, e158_18, e158_19, e158_21, e158_24, e158_25, e158_28, e158_29, e158_30, e158_32, e158_35, e158_38, e158_39, e158_42, e158_43, isO70, s127 R h8 hi, s125_4 R h8 hi, s125_11 R h8 hi, s125_8 R h8 hi, le_not, bi0, aft_v, aft_n, Option.bind_some, rf_some, ck_i, ck_r, ck_n, nb0, nb1, nbi, Nat.reduceAdd, if_true, if_false, not_false_eq_true, not_true_eq_false]
  by_cases h1 : 0 < α (7 + i) 3 <;> by_cases h2 : 0 < α (7 + i) 4 <;> by_cases h3 : α (7 + i) 12 = -1 <;> by_cases h4 : 0 < α (7 + i) 9 <;> simp only [h1, h2, h3, h4, and_true, and_false, true_and, false_and, aft_v, aft_n, Option.bind_some, rf_some, ck_i, ck_r, ck_n, nb0, nb1, nbi, Nat.reduceAdd, if_true, if_false, not_false_eq_true, not_true_eq_false]
theorem s162 {h : Nat} (hh : h < 6) {r : Int32} (hr : r = 0 ∨ r = 1) : Run 162 0 [some (.int (J h)), some (.int (r))] [] (HC z γ π β η o od) = some (.inl (some (.int (J (hdN h r)))), (HC z γ π β η o od)) := by
  unfold hdN
  rcases hr with rfl | rfl
  · simp only [↓reduceIte, e162_0, e162_1, e162_2, e162_5, e162_6, e162_9, e162_10, e162_11, e162_13, e162_14, q6, (trn h hh).2, aft_v, aft_n, Option.bind_some, rf_some, ck_i, ck_r, ck_n, nb0, nb1, nbi, Nat.reduceAdd, if_true, if_false, not_false_eq_true, not_true_eq_false]
  · simp only [↓reduceIte, e162_0, e162_1, e162_2, e162_5, e162_6, e162_9, e162_10, e162_11, e162_13, e162_14, q6, (trn h hh).1, i1_0, aft_v, aft_n, Option.bind_some, rf_some, ck_i, ck_r, ck_n, nb0, nb1, nbi, Nat.reduceAdd, if_true, if_false, not_false_eq_true, not_true_eq_false]
end S40
