/-! the law's other calls: carryOut, begin, addShip -/
theorem errF_0 (α : Mem) : errF α 0 0 0 0 = -1 := rfl
theorem le00 : (0 : Int32) ≤ 0 := by decide
/-- the numbers of a ship in one -/
def itsN (s a b g w : Nat) : Nat := s + 2 * a + 12 * (1 + b) + 768 * g + 12288 * (1 + w)
theorem its_J (s a b g w : Nat) : J s + 2 * J a + 12 * (1 + J b) + 768 * J g + 12288 * (1 + J w) = J (itsN s a b g w) := by
  unfold itsN
  rw [show (2 : Int32) = J 2 from rfl, show (12 : Int32) = J 12 from rfl, show (1 : Int32) = J 1 from rfl, show (768 : Int32) = J 768 from rfl, show (12288 : Int32) = J 12288 from rfl]
  simp only [J_add, J_mul]
theorem its_ok {s a b g w : Nat} (hs : s < 2) (ha : a < 6) (hb : b < 30) (hg : g < 13) (hw : w < 50) : J (itsN s a b g w) - J (itsN s a b g w) / 2 * 2 = J s ∧ J (itsN s a b g w) / 2 - J (itsN s a b g w) / 2 / 6 * 6 = J a ∧ J (itsN s a b g w) / 12 - J (itsN s a b g w) / 12 / 64 * 64 = J (1 + b) ∧ J (itsN s a b g w) / 768 - J (itsN s a b g w) / 768 / 16 * 16 = J g ∧ J (itsN s a b g w) / 12288 = J (1 + w) := by
  have hN : itsN s a b g w < 1000000 := by unfold itsN; omega
  have e2 : J (itsN s a b g w) / 2 = J (itsN s a b g w / 2) := J_div2 (by omega)
  have e12 : J (itsN s a b g w) / 12 = J (itsN s a b g w / 12) := J_div12 (by omega)
  have e768 : J (itsN s a b g w) / 768 = J (itsN s a b g w / 768) := J_div (m := 768) (by omega) (by decide) (by decide)
  have e12288 : J (itsN s a b g w) / 12288 = J (itsN s a b g w / 12288) := J_div (m := 12288) (by omega) (by decide) (by decide)
  have r2 := J_rem (a := itsN s a b g w) (m := 2) (by omega) (by decide) (by decide)
  have r6 := J_rem (a := itsN s a b g w / 2) (m := 6) (by omega) (by decide) (by decide)
  have r64 := J_rem (a := itsN s a b g w / 12) (m := 64) (by omega) (by decide) (by decide)
  have r16 := J_rem (a := itsN s a b g w / 768) (m := 16) (by omega) (by decide) (by decide)
  rw [e12288, e768, e12]
  refine ⟨r2.trans ?_, ?_, r64.trans ?_, r16.trans ?_, ?_⟩
  · congr 1; unfold itsN; omega
  · rw [e2]; refine r6.trans ?_; congr 1; unfold itsN; omega
  · congr 1; unfold itsN; omega
  · congr 1; unfold itsN; omega
  · congr 1; unfold itsN; omega
section S9A
variable {z : Zr} {α β γ : Mem} {π : Nat → Nat} {η : Int64} {o : Nat → Int64} {od : Nat → UInt64} {n k : Nat}
/-- no orders -/
theorem t106 (G : Gs α π n k) : ∃ α', Run 106 0 [some (.ref 3), none, none, none] [] (HC z α π β η o od) = some (.inl (some (.int 0)), HC z α' (saveP π k) β η o od) ∧ Dn α π n k α' (saveP π k) n (saveK k + 1) := by
  have hl : α 68 1 = J 0 := G.2.1
  have e := s37 (z := z) (π := π) (β := β) (η := η) (o := o) (od := od) hl (by omega)
  rw [errF_0] at e
  have hs := s30 (z := z) (β := β) (η := η) (o := o) (od := od) G.ok G.hp G.hk G.h4
  have hl2 : saveC α π n k 68 1 = 0 := (Gs_save G).1.2.1
  refine ⟨saveC α π n k, ?_, Dn_of G (Fs_r _) (sv_sg G)⟩
  simp only [↓reduceIte, e106_0, e106_1, e106_4, e106_7, e106_8, e106_9, e106_10, e106_13, e106_15, e106_16, e106_17, e106_18, e106_19, e106_22, e106_23, e106_26, e106_29, e106_30, e106_31, e106_32, e106_33, e106_34, e106_35, e106_38, e106_41, e106_44, e106_45, e106_48, e106_49, e106_52, e106_53, e106_56, e106_57, e106_60, e106_61, e106_62, e106_63, e106_66, e106_69, e106_72, e106_73, e106_74, e106_77, e106_78, e106_79, e106_82, e106_83, e106_86, e106_88, e106_91, e106_92, e106_95, e106_96, e106_97, e106_98, e106_101, e106_102, gf8_6 kd3, gf8_1 kd3, gf8_0 kd3, isO68, isO15, e, hs, gf5_1 kd68, hl2, le00, eq_self, aft_v, aft_n, Option.bind_some, rf_some, ck_i, ck_r, ck_n, nb0, nb1, nbi, Nat.reduceAdd, if_true, if_false, not_false_eq_true, not_true_eq_false]
/-- a sea made anew -/
theorem t121 (G : Gs α π n k) {c r : Nat} (hc : c < 6) (hr : r < 6) : ∃ α' π' k', Run 121 0 [some (.ref (3)), some (.int (4 + J c)), some (.int (4 + J r)), none] [] (HC z α π β η o od) = some (.inl (some (.int (J n))), (HC z α' π' β η o od)) ∧ Gs α' π' 0 k' := by
  have e4 : ∀ q, q < 6 → ¬ (4 + J q < 4) ∧ ¬ (12 < 4 + J q) := by decide
  have hrun := s83 (z := z) (β := β) (η := η) (o := o) (od := od) G.ok G.hp G.hk G.h4 (e4 c hc) (e4 r hr)
  rw [G.ok.hn] at hrun
  exact ⟨_, _, _, w121_ok _ _ hrun, (Dn_of G (Fs_new _ _ _) (Sg_new _ (e4 c hc) (e4 r hr))).1⟩
/-- a ship is added -/
theorem t124 (G : Gs α π n k) {c : Nat} (hn : n < 8) (hf : freeC α n (J c)) {s a b g w : Nat} (hs : s < 2) (ha : a < 6) (hb : b < 30) (hg : g < 13) (hw : w < 50) : ∃ α' π' k', Run 124 0 [some (.ref (3)), some (.int (J c)), some (.int (J (itsN s a b g w))), none] [] (HC z α π β η o od) = some (.inl (some (.int (J n))), (HC z α' π' β η o od)) ∧ Gs α' π' (n + 1) k' ∧ α' (7 + n) 0 = J s ∧ α' (7 + n) 1 = J c ∧ 0 < α' (7 + n) 3 ∧ α' (7 + n) 4 = 20 ∧ α' (7 + n) 5 = J g ∧ α' (7 + n) 6 = J g ∧ α' (7 + n) 12 = -1 := by
  obtain ⟨i1, i2, i3, i4, i5⟩ := its_ok hs ha hb hg hw
  have gv : givC (J s) (J a) (J (1 + b)) (J g) (J (1 + w)) := by
    refine ⟨⟨Jnn (by omega), ?_⟩, ⟨Jnn (by omega), ?_⟩, ⟨?_, ?_⟩, ⟨Jnn (by omega), ?_⟩, ⟨?_, ?_⟩⟩
    · rw [show (1 : Int32) = J 1 from rfl, J_lt (by omega) (by omega)]; omega
    · rw [show (5 : Int32) = J 5 from rfl, J_lt (by omega) (by omega)]; omega
    · rw [show (1 : Int32) = J 1 from rfl, J_lt (by omega) (by omega)]; omega
    · rw [show (60 : Int32) = J 60 from rfl, J_lt (by omega) (by omega)]; omega
    · rw [show (12 : Int32) = J 12 from rfl, J_lt (by omega) (by omega)]; omega
    · rw [show (1 : Int32) = J 1 from rfl, J_lt (by omega) (by omega)]; omega
    · rw [show (60 : Int32) = J 60 from rfl, J_lt (by omega) (by omega)]; omega
  have hrun := s86 (z := z) (β := β) (η := η) (o := o) (od := od) (x1 := J s) (x2 := J c) (x3 := J a) (x4 := J (1 + b)) (x5 := J g) (x6 := J (1 + w)) G.ok G.hp G.hk G.h4 hn gv hf
  have sq := (Gs_save G).2.1
  have hf' : freeC (saveC α π n k) n (J c) := by rw [free_sq sq G.ok.n8]; exact hf
  have F : Fs (saveC α π n k) (addC (saveC α π n k) n (J s) (J c) (J a) (J (1 + b)) (J g) (J (1 + w))) := Fs_t (Fs_t (Fs_launch _ hn _ _ _ _ _ _) (Fs_up _ (by decide) _ _)) (Fs_ready _ hn)
  have D := Dn_of G F (Sg_add (sv_sg G) hn gv hf')
  have rd : ∀ m, m ≠ 9 → m ≠ 14 → m ≠ 13 → addC (saveC α π n k) n (J s) (J c) (J a) (J (1 + b)) (J g) (J (1 + w)) (7 + n) m = launchC (saveC α π n k) (7 + n) (J s) (J c) (J a) (J (1 + b)) (J g) (J (1 + w)) (7 + n) m := fun m h1 h2 h3 => by
    unfold addC readyC
    rw [up2_rd _ _ _ _ _ h3, up2_rd _ _ _ _ _ h2, up2_rd _ _ _ _ _ h1, addM_n]
  have hA : Run 86 0 [some (.ref 3), some (.int (J (itsN s a b g w) - J (itsN s a b g w) / 2 * 2)), some (.int (J c)), some (.int (J (itsN s a b g w) / 2 - J (itsN s a b g w) / 2 / 6 * 6)), some (.int (J (itsN s a b g w) / 12 - J (itsN s a b g w) / 12 / 64 * 64)), some (.int (J (itsN s a b g w) / 768 - J (itsN s a b g w) / 768 / 16 * 16)), some (.int (J (itsN s a b g w) / 12288)), none, none] [] (HC z α π β η o od) = some (.inl (some (.int (J n))), HC z (addC (saveC α π n k) n (J s) (J c) (J a) (J (1 + b)) (J g) (J (1 + w))) (saveP π k) β η o od) := by
    rw [i1, i2, i3, i4, i5]
    exact s86 (z := z) (β := β) (η := η) (o := o) (od := od) G.ok G.hp G.hk G.h4 hn gv hf
  refine ⟨_, _, _, w124_ok _ _ hA, D.1, ?_, ?_, ?_, ?_, ?_, ?_, ?_⟩
  · rw [rd _ (by decide) (by decide) (by decide), launch_0]
  · rw [rd _ (by decide) (by decide) (by decide), launch_1]
  · rw [rd _ (by decide) (by decide) (by decide), launch_3, i32_lt, ti0, J_ti (by omega)]; omega
  · rw [rd _ (by decide) (by decide) (by decide), launch_4]
  · rw [rd _ (by decide) (by decide) (by decide), launch_5]
  · rw [rd _ (by decide) (by decide) (by decide), launch_6]
  · rw [rd _ (by decide) (by decide) (by decide), launch_12]
theorem t124_m (H : Ok α n) {c : Nat} (hc : isCellC α 4 (J c)) (h : ¬ (n < 8 ∧ freeC α n (J c))) {s a b g w : Nat} (hs : s < 2) (ha : a < 6) (hb : b < 30) (hg : g < 13) (hw : w < 50) : Run 124 0 [some (.ref (3)), some (.int (J c)), some (.int (J (itsN s a b g w))), none] [] (HC z α π β η o od) = some (.inl (some (.int (-902))), HC (zb z) α π β η o od) := by
  obtain ⟨i1, i2, i3, i4, i5⟩ := its_ok hs ha hb hg hw
  have gv : givC (J s) (J a) (J (1 + b)) (J g) (J (1 + w)) := by
    refine ⟨⟨Jnn (by omega), ?_⟩, ⟨Jnn (by omega), ?_⟩, ⟨?_, ?_⟩, ⟨Jnn (by omega), ?_⟩, ⟨?_, ?_⟩⟩
    · rw [show (1 : Int32) = J 1 from rfl, J_lt (by omega) (by omega)]; omega
    · rw [show (5 : Int32) = J 5 from rfl, J_lt (by omega) (by omega)]; omega
    · rw [show (1 : Int32) = J 1 from rfl, J_lt (by omega) (by omega)]; omega
    · rw [show (60 : Int32) = J 60 from rfl, J_lt (by omega) (by omega)]; omega
    · rw [show (12 : Int32) = J 12 from rfl, J_lt (by omega) (by omega)]; omega
    · rw [show (1 : Int32) = J 1 from rfl, J_lt (by omega) (by omega)]; omega
    · rw [show (60 : Int32) = J 60 from rfl, J_lt (by omega) (by omega)]; omega
  refine w124_S _ _ ?_
  rw [i1, i2, i3, i4, i5]
  exact s86x H hc gv h
end S9A
