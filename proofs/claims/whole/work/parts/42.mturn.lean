/-! the model: a ship goes, a ship turns -/
section S42
variable {z : Zr} {α β γ : Mem} {π : Nat → Nat} {η : Int64} {o : Nat → Int64} {od : Nat → UInt64} {n k : Nat}
theorem s160 (H : Ok α n) (R : Rm (β 71) α n) {i : Nat} (hi : i < n) : ∃ β', Run 160 0 [some (.ref (70)), some (.int (J i))] [] (HC z γ π β η o od) = some (.inl (some (.int (nbC α (α (7 + i) 1) (hdA α (7 + i))))), (HC z γ π β' η o od)) ∧ Rm (β' 71) (moveC α i) n ∧ Md β β' := by
  have h8 := H.n8
  have hi8 : i < 8 := by omega
  have hd := H.hdJ hi
  have e2 : Run 130 0 [some (.ref (70)), some (.int (α (7 + i) 1)), some (.int (α (7 + i) 2)), none, none] [] (HC z γ π β η o od) = some (.inl (some (.int (nbC α (α (7 + i) 1) (hdA α (7 + i))))), (HC z γ π β η o od)) := by rw [hd.2]; exact s130 H R hd.1
  have R1 := Rm_up R hi8 (k := 1) (by decide) (nbC α (α (7 + i) 1) (hdA α (7 + i)))
  have R2 := Rm_up R1 hi8 (k := 8) (by decide) (α (7 + i) 9 - 1)
  have R3 := Rm_up R2 hi8 (k := 13) (by decide) 1
  have g1 : up2 α (7 + i) (slM 1) (nbC α (α (7 + i) 1) (hdA α (7 + i))) (7 + i) 9 = α (7 + i) 9 := u1_9 ..
  have g3 : up2 (up2 (up2 α (7 + i) (slM 1) (nbC α (α (7 + i) 1) (hdA α (7 + i)))) (7 + i) (slM 8) (α (7 + i) 9 - 1)) (7 + i) (slM 13) 1 (7 + i) 1 = nbC α (α (7 + i) 1) (hdA α (7 + i)) := by
    show up2 (up2 (up2 α (7 + i) 1 _) (7 + i) 9 _) (7 + i) 14 1 (7 + i) 1 = _
    rw [u14_1, u9_1, up2_rr]
  refine ⟨_, ?_, R3, Md_up (Md_up (Md_up (Md_r β) _ _) _ _) _ _⟩
  simp only [↓reduceIte, e160_0, e160_1, e160_2, e160_3, e160_4, e160_5, e160_6, e160_7, e160_10, e160_11, e160_12, e160_13, e160_16, e160_19, e160_22, e160_23, e160_24, e160_26, e160_27, e160_28, e160_30, e160_33, e160_34, e160_35, e160_38, e160_39, e160_40, e160_42, e160_43, e160_46, e160_47, e160_48, e160_49, e160_52, isO70, s125_1 R h8 hi, s125_2 R h8 hi, e2, s126_1 hi8, s125_8 R1 h8 hi, g1, s126_8 hi8, s126_13 hi8, s125_1 R3 h8 hi, g3, aft_v, aft_n, Option.bind_some, rf_some, ck_i, ck_r, ck_n, nb0, nb1, nbi, Nat.reduceAdd, if_true, if_false, not_false_eq_true, not_true_eq_false]
theorem s163 (H : Ok α n) (R : Rm (β 71) α n) {i : Nat} (hi : i < n) {r : Int32} (hr : r = 0 ∨ r = 1) : Run 163 0 [some (.ref (70)), some (.int (J i)), some (.int (r)), none] [] (HC z γ π β η o od) = some (.inl (some (.int (if canSwingC α i r then 0 else 2))), (HC z γ π β η o od)) := by
  have h8 := H.n8
  have hd := H.hdJ hi
  have hs := isShip_J H.hn h8 hi
  have hl := hdN_lt (hdA α (7 + i)) r
  have e0 : Run 162 0 [some (.int (α (7 + i) 2)), some (.int (r))] [] (HC z γ π β η o od) = some (.inl (some (.int (J (hdN (hdA α (7 + i)) r)))), (HC z γ π β η o od)) := by rw [hd.2]; exact s162 hd.1 hr
  have e1 : Run 143 0 [some (.int (J (hdN (hdA α (7 + i)) r))), some (.int (α 4 2)), none] [] (HC z γ π β η o od) = some (.inl (some (.int (J (angN (hdN (hdA α (7 + i)) r) (wdN α))))), (HC z γ π β η o od)) := by rw [H.wdJ.2]; exact s143 hl H.wdJ.1
  have q3 : (J (angN (hdN (hdA α (7 + i)) r) (wdN α)) < 3) = ¬ angN (hdN (hdA α (7 + i)) r) (wdN α) = 3 := by
    have := angJ3 hl H.wdJ.1
    rw [← nle, this]
  simp only [↓reduceIte, e163_0, e163_1, e163_2, e163_5, e163_8, e163_9, e163_10, e163_11, e163_12, e163_15, e163_18, e163_19, e163_20, e163_21, e163_24, e163_25, e163_28, e163_29, e163_32, e163_33, e163_34, e163_37, e163_38, e163_41, e163_42, e163_43, e163_45, e163_48, e163_49, e163_52, e163_53, e163_56, e163_57, e163_58, e163_59, e163_62, e163_63, e163_66, e163_67, gf9_0 kd_70, isO70, s124 H R, bi_t hs, s158 R h8 hi, s125_13 R h8 hi, s125_2 R h8 hi, m71_2 R, e0, e1, q3, bi0, i1_0, aft_v, aft_n, Option.bind_some, rf_some, ck_i, ck_r, ck_n, nb0, nb1, nbi, Nat.reduceAdd, if_true, if_false, not_false_eq_true, not_true_eq_false]
  by_cases h1 : canSailC α (7 + i)
  · rw [if_neg (fun q => q h1)]
    by_cases h3 : angN (hdN (hdA α (7 + i)) r) (wdN α) = 3
    · rcases H.way i hi with w | w
      · have hn : ¬ canSwingC α i r := fun q => q.2.elim (fun x => x w) (fun x => x h3)
        rw [if_neg hn]
        simp only [h3, w, ln0_1, ln0_2, ln0_3, ln0_4, ln0_5, ln1_0, ln1_2, ln1_3, ln1_4, ln1_5, ln2_0, ln2_1, ln2_3, ln2_4, ln2_5, ln3_0, ln3_1, ln3_2, ln3_4, ln3_5, ln4_0, ln4_1, ln4_2, ln4_3, ln4_5, ln5_0, ln5_1, ln5_2, ln5_3, ln5_4, aft_v, aft_n, Option.bind_some, rf_some, ck_i, ck_r, ck_n, nb0, nb1, nbi, Nat.reduceAdd, if_true, if_false, not_false_eq_true, not_true_eq_false]
      · have hy : canSwingC α i r := ⟨h1, Or.inl (by rw [w]; decide)⟩
        rw [if_pos hy]
        simp only [h3, w, ln0_1, ln0_2, ln0_3, ln0_4, ln0_5, ln1_0, ln1_2, ln1_3, ln1_4, ln1_5, ln2_0, ln2_1, ln2_3, ln2_4, ln2_5, ln3_0, ln3_1, ln3_2, ln3_4, ln3_5, ln4_0, ln4_1, ln4_2, ln4_3, ln4_5, ln5_0, ln5_1, ln5_2, ln5_3, ln5_4, aft_v, aft_n, Option.bind_some, rf_some, ck_i, ck_r, ck_n, nb0, nb1, nbi, Nat.reduceAdd, if_true, if_false, not_false_eq_true, not_true_eq_false]
    · have hy : canSwingC α i r := ⟨h1, Or.inr h3⟩
      rw [if_pos hy]
      simp only [h3, aft_v, aft_n, Option.bind_some, rf_some, ck_i, ck_r, ck_n, nb0, nb1, nbi, Nat.reduceAdd, if_true, if_false, not_false_eq_true, not_true_eq_false]
  · rw [if_pos h1, if_neg (fun q : canSwingC α i r => h1 q.1)]
theorem s163n (H : Ok α n) (R : Rm (β 71) α n) {c r : Int32} (hs : ¬ isShipC α 4 c) : Run 163 0 [some (.ref (70)), some (.int (c)), some (.int (r)), none] [] (HC z γ π β η o od) = some (.inl (some (.int (1))), (HC z γ π β η o od)) := by
  simp only [↓reduceIte, e163_0, e163_1, e163_2, e163_5, e163_8, e163_9, e163_10, e163_11, e163_12, e163_15, e163_18, e163_19, e163_20, e163_21, e163_24, e163_25, e163_28, e163_29, e163_32, e163_33, e163_34, e163_37, e163_38, e163_41, e163_42, e163_43, e163_45, e163_48, e163_49, e163_52, e163_53, e163_56, e163_57, e163_58, e163_59, e163_62, e163_63, e163_66, e163_67, isO70, s124 H R, bi_f hs, aft_v, aft_n, Option.bind_some, rf_some, ck_i, ck_r, ck_n, nb0, nb1, nbi, Nat.reduceAdd, if_true, if_false, not_false_eq_true, not_true_eq_false]
theorem s164 (H : Ok α n) (R : Rm (β 71) α n) {i : Nat} (hi : i < n) {r : Int32} (hr : r = 0 ∨ r = 1) : ∃ β', Run 164 0 [some (.ref (70)), some (.int (J i)), some (.int (r))] [] (HC z γ π β η o od) = some (.inl (some (.int (J (hdN (hdA α (7 + i)) r)))), (HC z γ π β' η o od)) ∧ Rm (β' 71) (swingC α (7 + i) (J (hdN (hdA α (7 + i)) r))) n ∧ Md β β' := by
  have h8 := H.n8
  have hi8 : i < 8 := by omega
  have hd := H.hdJ hi
  have e0 : Run 162 0 [some (.int (α (7 + i) 2)), some (.int (r))] [] (HC z γ π β η o od) = some (.inl (some (.int (J (hdN (hdA α (7 + i)) r)))), (HC z γ π β η o od)) := by rw [hd.2]; exact s162 hd.1 hr
  have R1 := Rm_up R hi8 (k := 2) (by decide) (J (hdN (hdA α (7 + i)) r))
  have R2 := Rm_up R1 hi8 (k := 8) (by decide) (α (7 + i) 9 - 1)
  have R3 := Rm_up R2 hi8 (k := 13) (by decide) 0
  have g1 : up2 α (7 + i) (slM 2) (J (hdN (hdA α (7 + i)) r)) (7 + i) 9 = α (7 + i) 9 := u2_9 ..
  have g3 : up2 (up2 (up2 α (7 + i) (slM 2) (J (hdN (hdA α (7 + i)) r))) (7 + i) (slM 8) (α (7 + i) 9 - 1)) (7 + i) (slM 13) 0 (7 + i) 2 = J (hdN (hdA α (7 + i)) r) := by
    show up2 (up2 (up2 α (7 + i) 2 _) (7 + i) 9 _) (7 + i) 14 0 (7 + i) 2 = _
    rw [u14_2, u9_2, up2_rr]
  refine ⟨_, ?_, R3, Md_up (Md_up (Md_up (Md_r β) _ _) _ _) _ _⟩
  simp only [↓reduceIte, e164_0, e164_1, e164_2, e164_3, e164_4, e164_5, e164_6, e164_9, e164_10, e164_13, e164_16, e164_17, e164_18, e164_20, e164_21, e164_22, e164_24, e164_27, e164_28, e164_29, e164_32, e164_33, e164_34, e164_36, e164_37, e164_40, e164_41, e164_42, e164_43, e164_46, isO70, s125_2 R h8 hi, e0, s126_2 hi8, s125_8 R1 h8 hi, g1, s126_8 hi8, s126_13 hi8, s125_2 R3 h8 hi, g3, aft_v, aft_n, Option.bind_some, rf_some, ck_i, ck_r, ck_n, nb0, nb1, nbi, Nat.reduceAdd, if_true, if_false, not_false_eq_true, not_true_eq_false]
end S42
