theorem e0_0 {L : Lo} {S : List Value} {h : Hp} {v : Nat} : Run 0 0 (some (.ref v) :: L) S h = Run 0 1 (some (.ref v) :: L) (.ref v :: S) h := Rg rfl
theorem e0_1 {L : Lo} {h : Hp} {a0 : Nat} : Run 0 1 L [.ref a0] h = Run 0 4 L [] h := Rg rfl
theorem e0_4 {L : Lo} {S : List Value} {h : Hp} {v : Nat} : Run 0 4 (some (.ref v) :: L) S h = Run 0 5 (some (.ref v) :: L) (.ref v :: S) h := Rg rfl
theorem e0_5 {L : Lo} {S : List Value} {h : Hp} {x0 : Option Value} {v : Nat} : Run 0 5 (x0 :: some (.ref v) :: L) S h = Run 0 6 (x0 :: some (.ref v) :: L) (.ref v :: S) h := Rg rfl
theorem e0_6 {L : Lo} {S : List Value} {h : Hp} {b : Nat} {v : Value} : Run 0 6 L (v :: .ref b :: S) h = (pf h 0 0 b v).bind fun h1 => Run 0 9 L S h1 := Rb rfl fun _ => rfl
theorem e0_9 {L : Lo} {S : List Value} {h : Hp} {v : Nat} : Run 0 9 (some (.ref v) :: L) S h = Run 0 10 (some (.ref v) :: L) (.ref v :: S) h := Rg rfl
theorem e0_10 {L : Lo} {S : List Value} {h : Hp} : Run 0 10 L S h = Run 0 13 L (.int 144 :: S) h := Rg rfl
theorem e0_13 {L : Lo} {S : List Value} {h : Hp} {N : Int32} (hN : ¬ N < 0 ∧ N.toNatClampNeg ≤ 60000) : Run 0 13 L (.int N :: S) h = Run 0 15 L (.ref h.1 :: S) (hnew h (blank0 0 N.toNatClampNeg) N.toNatClampNeg) := Rg (if_pos hN)
theorem e0_15 {L : Lo} {S : List Value} {h : Hp} {b : Nat} {v : Value} : Run 0 15 L (v :: .ref b :: S) h = (pf h 0 1 b v).bind fun h1 => Run 0 18 L S h1 := Rb rfl fun _ => rfl
theorem e0_18 {L : Lo} {S : List Value} {h : Hp} {v : Nat} : Run 0 18 (some (.ref v) :: L) S h = Run 0 19 (some (.ref v) :: L) (.ref v :: S) h := Rg rfl
theorem e0_19 {L : Lo} {S : List Value} {h : Hp} : Run 0 19 L S h = Run 0 22 L (.int 144 :: S) h := Rg rfl
theorem e0_22 {L : Lo} {S : List Value} {h : Hp} {N : Int32} (hN : ¬ N < 0 ∧ N.toNatClampNeg ≤ 60000) : Run 0 22 L (.int N :: S) h = Run 0 24 L (.ref h.1 :: S) (hnew h (blank0 0 N.toNatClampNeg) N.toNatClampNeg) := Rg (if_pos hN)
theorem e0_24 {L : Lo} {S : List Value} {h : Hp} {b : Nat} {v : Value} : Run 0 24 L (v :: .ref b :: S) h = (pf h 0 2 b v).bind fun h1 => Run 0 27 L S h1 := Rb rfl fun _ => rfl
theorem e0_27 {L : Lo} {S : List Value} {h : Hp} {v : Nat} : Run 0 27 (some (.ref v) :: L) S h = Run 0 28 (some (.ref v) :: L) (.ref v :: S) h := Rg rfl
theorem e0_28 {L : Lo} {S : List Value} {h : Hp} : Run 0 28 L S h = Run 0 31 L (.int 1728 :: S) h := Rg rfl
theorem e0_31 {L : Lo} {S : List Value} {h : Hp} {N : Int32} (hN : ¬ N < 0 ∧ N.toNatClampNeg ≤ 60000) : Run 0 31 L (.int N :: S) h = Run 0 33 L (.ref h.1 :: S) (hnew h (blank0 0 N.toNatClampNeg) N.toNatClampNeg) := Rg (if_pos hN)
theorem e0_33 {L : Lo} {S : List Value} {h : Hp} {b : Nat} {v : Value} : Run 0 33 L (v :: .ref b :: S) h = (pf h 0 3 b v).bind fun h1 => Run 0 36 L S h1 := Rb rfl fun _ => rfl
theorem e0_36 {L : Lo} {S : List Value} {h : Hp} {v : Nat} : Run 0 36 (some (.ref v) :: L) S h = Run 0 37 (some (.ref v) :: L) (.ref v :: S) h := Rg rfl
theorem e0_37 {L : Lo} {S : List Value} {h : Hp} : Run 0 37 L S h = Run 0 38 L (.int 0 :: S) h := Rg rfl
theorem e0_38 {L : Lo} {S : List Value} {h : Hp} {b : Nat} {v : Value} : Run 0 38 L (v :: .ref b :: S) h = (pf h 0 4 b v).bind fun h1 => Run 0 41 L S h1 := Rb rfl fun _ => rfl
theorem e0_41 {L : Lo} {S : List Value} {h : Hp} {v : Nat} : Run 0 41 (some (.ref v) :: L) S h = Run 0 42 (some (.ref v) :: L) (.ref v :: S) h := Rg rfl
theorem e0_42 {L : Lo} {S : List Value} {h : Hp} : Run 0 42 L S h = Run 0 43 L (.int 0 :: S) h := Rg rfl
theorem e0_43 {L : Lo} {S : List Value} {h : Hp} {b : Nat} {v : Value} : Run 0 43 L (v :: .ref b :: S) h = (pf h 0 5 b v).bind fun h1 => Run 0 46 L S h1 := Rb rfl fun _ => rfl
theorem e0_46 {L : Lo} {h : Hp} : Run 0 46 L [] h = some (.inl none, h) := Rd rfl
theorem e1_0 {L : Lo} {S : List Value} {h : Hp} {v : Nat} : Run 1 0 (some (.ref v) :: L) S h = Run 1 1 (some (.ref v) :: L) (.ref v :: S) h := Rg rfl
theorem e1_1 {L : Lo} {S : List Value} {h : Hp} {x0 : Option Value} {v : Nat} : Run 1 1 (x0 :: some (.ref v) :: L) S h = Run 1 2 (x0 :: some (.ref v) :: L) (.ref v :: S) h := Rg rfl
set_option maxRecDepth 100000 in
theorem e1_2 {L : Lo} {h : Hp} {a1 : Nat} {a0 : Nat} (hO : isO h a0 0 = true) : Run 1 2 L [.ref a1, .ref a0] h = (Run 3 0 [some (.ref a0), some (.ref a1), none, none, none] [] h).bind fun o => aft 1 2 5 L [] o := Rcv (c := 3) (As := [.ref a1]) (S' := []) (pc' := 5) 0 rfl hO
theorem e1_5 {L : Lo} {S : List Value} {h : Hp} {v : Nat} : Run 1 5 (some (.ref v) :: L) S h = Run 1 6 (some (.ref v) :: L) (.ref v :: S) h := Rg rfl
theorem e1_6 {L : Lo} {S : List Value} {h : Hp} {b : Nat} : Run 1 6 L (.ref b :: S) h = (gf h 0 5 b).bind fun v => Run 1 9 L (v :: S) h := Rb rfl fun _ => rfl
theorem e1_9 {L : Lo} {h : Hp} {x : Int32} : Run 1 9 L [.int x] h = some (.inl (some (.int x)), h) := Rd (if_pos (c := narrow .int (.int x) = .int x) rfl)
theorem e2_0 {L : Lo} {S : List Value} {h : Hp} {v : Nat} : Run 2 0 (some (.ref v) :: L) S h = Run 2 1 (some (.ref v) :: L) (.ref v :: S) h := Rg rfl
theorem e2_1 {L : Lo} {S : List Value} {h : Hp} {x0 : Option Value} {v : Nat} : Run 2 1 (x0 :: some (.ref v) :: L) S h = Run 2 2 (x0 :: some (.ref v) :: L) (.ref v :: S) h := Rg rfl
set_option maxRecDepth 100000 in
theorem e2_2 {L : Lo} {h : Hp} {a1 : Nat} {a0 : Nat} (hO : isO h a0 0 = true) : Run 2 2 L [.ref a1, .ref a0] h = (Run 3 0 [some (.ref a0), some (.ref a1), none, none, none] [] h).bind fun o => aft 2 2 5 L [] o := Rcv (c := 3) (As := [.ref a1]) (S' := []) (pc' := 5) 0 rfl hO
theorem e2_5 {L : Lo} {S : List Value} {h : Hp} {v : Nat} : Run 2 5 (some (.ref v) :: L) S h = Run 2 6 (some (.ref v) :: L) (.ref v :: S) h := Rg rfl
theorem e2_6 {L : Lo} {S : List Value} {h : Hp} {b : Nat} : Run 2 6 L (.ref b :: S) h = (gf h 0 0 b).bind fun v => Run 2 9 L (v :: S) h := Rb rfl fun _ => rfl
theorem e2_9 {L : Lo} {S : List Value} {h : Hp} {x0 x1 : Option Value} {v : Int32} : Run 2 9 (x0 :: x1 :: some (.int v) :: L) S h = Run 2 10 (x0 :: x1 :: some (.int v) :: L) (.int v :: S) h := Rg rfl
set_option maxRecDepth 100000 in
theorem e2_10 {L : Lo} {h : Hp} {a1 : Int32} {a0 : Nat} (hO : isO h a0 6 = true) : Run 2 10 L [.int a1, .ref a0] h = (Run 44 0 [some (.ref a0), some (.int a1)] [] h).bind fun o => aft 2 10 13 L [] o := Rcv (c := 44) (As := [.int a1]) (S' := []) (pc' := 13) 6 rfl hO
theorem e2_13 {L : Lo} {S : List Value} {h : Hp} {x : Int32} : Run 2 13 L (.int x :: S) h = if x = 0 then Run 2 25 L S h else Run 2 16 L S h := Rbr (c := cnd .eq x 0 = true) (off := 12) rfl rfl cnd_eq
theorem e2_16 {L : Lo} {S : List Value} {h : Hp} {v : Nat} : Run 2 16 (some (.ref v) :: L) S h = Run 2 17 (some (.ref v) :: L) (.ref v :: S) h := Rg rfl
theorem e2_17 {L : Lo} {S : List Value} {h : Hp} {b : Nat} : Run 2 17 L (.ref b :: S) h = (gf h 0 2 b).bind fun v => Run 2 20 L (v :: S) h := Rb rfl fun _ => rfl
theorem e2_20 {L : Lo} {S : List Value} {h : Hp} {x0 x1 : Option Value} {v : Int32} : Run 2 20 (x0 :: x1 :: some (.int v) :: L) S h = Run 2 21 (x0 :: x1 :: some (.int v) :: L) (.int v :: S) h := Rg rfl
theorem e2_21 {L : Lo} {S : List Value} {h : Hp} {i : Int32} {b : Nat} : Run 2 21 L (.int i :: .ref b :: S) h = (gaI h b i).bind fun v => Run 2 22 L (.int v :: S) h := Rb rfl fun _ => rfl
theorem e2_22 {L : Lo} {S : List Value} {h : Hp} : Run 2 22 L S h = Run 2 26 L S h := Rg rfl
theorem e2_25 {L : Lo} {S : List Value} {h : Hp} : Run 2 25 L S h = Run 2 26 L (.int (-1) :: S) h := Rg rfl
theorem e2_26 {L : Lo} {h : Hp} {x : Int32} : Run 2 26 L [.int x] h = some (.inl (some (.int x)), h) := Rd (if_pos (c := narrow .int (.int x) = .int x) rfl)
theorem e3_0 {L : Lo} {S : List Value} {h : Hp} {v : Nat} : Run 3 0 (some (.ref v) :: L) S h = Run 3 1 (some (.ref v) :: L) (.ref v :: S) h := Rg rfl
theorem e3_1 {L : Lo} {S : List Value} {h : Hp} {b : Nat} : Run 3 1 L (.ref b :: S) h = (gf h 0 1 b).bind fun v => Run 3 4 L (v :: S) h := Rb rfl fun _ => rfl
theorem e3_4 {L : Lo} {S : List Value} {h : Hp} : Run 3 4 L S h = Run 3 5 L (.int 0 :: S) h := Rg rfl
set_option maxRecDepth 100000 in
theorem e3_5 {L : Lo} {h : Hp} {a1 : Int32} {a0 : Nat} : Run 3 5 L [.int a1, .ref a0] h = (Run 118 0 [some (.ref a0), some (.int a1), none, none] [] h).bind fun o => aft 3 5 8 L [] o := Rc (c := 118) (As := [.ref a0, .int a1]) (S' := []) (pc' := 8) rfl
theorem e3_8 {L : Lo} {S : List Value} {h : Hp} {v : Nat} : Run 3 8 (some (.ref v) :: L) S h = Run 3 9 (some (.ref v) :: L) (.ref v :: S) h := Rg rfl
theorem e3_9 {L : Lo} {S : List Value} {h : Hp} {b : Nat} : Run 3 9 L (.ref b :: S) h = (gf h 0 2 b).bind fun v => Run 3 12 L (v :: S) h := Rb rfl fun _ => rfl
theorem e3_12 {L : Lo} {S : List Value} {h : Hp} : Run 3 12 L S h = Run 3 13 L (.int (-1) :: S) h := Rg rfl
set_option maxRecDepth 100000 in
theorem e3_13 {L : Lo} {h : Hp} {a1 : Int32} {a0 : Nat} : Run 3 13 L [.int a1, .ref a0] h = (Run 118 0 [some (.ref a0), some (.int a1), none, none] [] h).bind fun o => aft 3 13 16 L [] o := Rc (c := 118) (As := [.ref a0, .int a1]) (S' := []) (pc' := 16) rfl
theorem e3_16 {L : Lo} {S : List Value} {h : Hp} {v : Nat} : Run 3 16 (some (.ref v) :: L) S h = Run 3 17 (some (.ref v) :: L) (.ref v :: S) h := Rg rfl
theorem e3_17 {L : Lo} {S : List Value} {h : Hp} : Run 3 17 L S h = Run 3 18 L (.int 0 :: S) h := Rg rfl
theorem e3_18 {L : Lo} {S : List Value} {h : Hp} {b : Nat} {v : Value} : Run 3 18 L (v :: .ref b :: S) h = (pf h 0 4 b v).bind fun h1 => Run 3 21 L S h1 := Rb rfl fun _ => rfl
theorem e3_21 {L : Lo} {S : List Value} {h : Hp} {v : Nat} : Run 3 21 (some (.ref v) :: L) S h = Run 3 22 (some (.ref v) :: L) (.ref v :: S) h := Rg rfl
theorem e3_22 {L : Lo} {S : List Value} {h : Hp} : Run 3 22 L S h = Run 3 23 L (.int 0 :: S) h := Rg rfl
theorem e3_23 {L : Lo} {S : List Value} {h : Hp} {b : Nat} {v : Value} : Run 3 23 L (v :: .ref b :: S) h = (pf h 0 5 b v).bind fun h1 => Run 3 26 L S h1 := Rb rfl fun _ => rfl
theorem e3_26 {L : Lo} {S : List Value} {h : Hp} {x0 : Option Value} {v : Nat} : Run 3 26 (x0 :: some (.ref v) :: L) S h = Run 3 27 (x0 :: some (.ref v) :: L) (.ref v :: S) h := Rg rfl
set_option maxRecDepth 100000 in
theorem e3_27 {L : Lo} {h : Hp} {a0 : Nat} (hO : isO h a0 7 = true) : Run 3 27 L [.ref a0] h = (Run 73 0 [some (.ref a0)] [] h).bind fun o => aft 3 27 30 L [] o := Rcv (c := 73) (As := []) (S' := []) (pc' := 30) 7 rfl hO
theorem e3_30 {L : Lo} {S : List Value} {h : Hp} {x : Int32} : Run 3 30 L (.int x :: S) h = if x = 0 then Run 3 33 L S h else Run 3 34 L S h := RbrN (c := cnd .ne x 0 = true) (off := 4) rfl rfl cnd_ne
theorem e3_33 {L : Lo} {h : Hp} : Run 3 33 L [] h = some (.inl none, h) := Rd rfl
theorem e3_34 {L : Lo} {S : List Value} {h : Hp} {v : Nat} : Run 3 34 (some (.ref v) :: L) S h = Run 3 35 (some (.ref v) :: L) (.ref v :: S) h := Rg rfl
theorem e3_35 {L : Lo} {S : List Value} {h : Hp} {x0 : Option Value} {v : Nat} : Run 3 35 (x0 :: some (.ref v) :: L) S h = Run 3 36 (x0 :: some (.ref v) :: L) (.ref v :: S) h := Rg rfl
theorem e3_36 {L : Lo} {S : List Value} {h : Hp} {b : Nat} : Run 3 36 L (.ref b :: S) h = (gf h 7 1 b).bind fun v => Run 3 39 L (v :: S) h := Rb rfl fun _ => rfl
theorem e3_39 {L : Lo} {S : List Value} {h : Hp} {x0 : Option Value} {v : Nat} : Run 3 39 (x0 :: some (.ref v) :: L) S h = Run 3 40 (x0 :: some (.ref v) :: L) (.ref v :: S) h := Rg rfl
theorem e3_40 {L : Lo} {S : List Value} {h : Hp} {b : Nat} : Run 3 40 L (.ref b :: S) h = (gf h 7 2 b).bind fun v => Run 3 43 L (v :: S) h := Rb rfl fun _ => rfl
theorem e3_43 {L : Lo} {S : List Value} {h : Hp} {x0 : Option Value} {v : Nat} : Run 3 43 (x0 :: some (.ref v) :: L) S h = Run 3 44 (x0 :: some (.ref v) :: L) (.ref v :: S) h := Rg rfl
theorem e3_44 {L : Lo} {S : List Value} {h : Hp} {b : Nat} : Run 3 44 L (.ref b :: S) h = (gf h 7 14 b).bind fun v => Run 3 47 L (v :: S) h := Rb rfl fun _ => rfl
theorem e3_47 {L : Lo} {S : List Value} {h : Hp} {x0 : Option Value} {v : Nat} : Run 3 47 (x0 :: some (.ref v) :: L) S h = Run 3 48 (x0 :: some (.ref v) :: L) (.ref v :: S) h := Rg rfl
theorem e3_48 {L : Lo} {S : List Value} {h : Hp} {b : Nat} : Run 3 48 L (.ref b :: S) h = (gf h 7 9 b).bind fun v => Run 3 51 L (v :: S) h := Rb rfl fun _ => rfl
set_option maxRecDepth 100000 in
theorem e3_51 {L : Lo} {h : Hp} {a4 : Int32} {a3 : Int32} {a2 : Int32} {a1 : Int32} {a0 : Nat} (hO : isO h a0 0 = true) : Run 3 51 L [.int a4, .int a3, .int a2, .int a1, .ref a0] h = (Run 5 0 [some (.ref a0), some (.int a1), some (.int a2), some (.int a3), some (.int a4), none, none] [] h).bind fun o => aft 3 51 54 L [] o := Rcv (c := 5) (As := [.int a1, .int a2, .int a3, .int a4]) (S' := []) (pc' := 54) 0 rfl hO
theorem e3_54 {L : Lo} {S : List Value} {h : Hp} {x0 : Option Value} {v : Nat} : Run 3 54 (x0 :: some (.ref v) :: L) S h = Run 3 55 (x0 :: some (.ref v) :: L) (.ref v :: S) h := Rg rfl
set_option maxRecDepth 100000 in
theorem e3_55 {L : Lo} {h : Hp} {a0 : Nat} (hO : isO h a0 7 = true) : Run 3 55 L [.ref a0] h = (Run 75 0 [some (.ref a0)] [] h).bind fun o => aft 3 55 58 L [] o := Rcv (c := 75) (As := []) (S' := []) (pc' := 58) 7 rfl hO
theorem e3_58 {L : Lo} {S : List Value} {h : Hp} {x : Int32} : Run 3 58 L (.int x :: S) h = if x = 0 then Run 3 61 L S h else Run 3 62 L S h := RbrN (c := cnd .ne x 0 = true) (off := 4) rfl rfl cnd_ne
theorem e3_61 {L : Lo} {h : Hp} : Run 3 61 L [] h = some (.inl none, h) := Rd rfl
theorem e3_62 {L : Lo} {S : List Value} {h : Hp} : Run 3 62 L S h = Run 3 63 L (.int 0 :: S) h := Rg rfl
theorem e3_63 {L : Lo} {S : List Value} {h : Hp} {x0 x1 : Option Value} {y : Option Value} {v : Int32} : Run 3 63 (x0 :: x1 :: y :: L) (.int v :: S) h = Run 3 64 (x0 :: ck x1 :: some (.int v) :: L) S h := Rg rfl
theorem e3_64 {L : Lo} {S : List Value} {h : Hp} {x0 : Option Value} {v : Nat} : Run 3 64 (x0 :: some (.ref v) :: L) S h = Run 3 65 (x0 :: some (.ref v) :: L) (.ref v :: S) h := Rg rfl
theorem e3_65 {L : Lo} {S : List Value} {h : Hp} {b : Nat} : Run 3 65 L (.ref b :: S) h = (gf h 7 9 b).bind fun v => Run 3 68 L (v :: S) h := Rb rfl fun _ => rfl
theorem e3_68 {L : Lo} {S : List Value} {h : Hp} {x0 x1 x2 : Option Value} {y : Option Value} {v : Int32} : Run 3 68 (x0 :: x1 :: x2 :: y :: L) (.int v :: S) h = Run 3 69 (x0 :: x1 :: ck x2 :: some (.int v) :: L) S h := Rg rfl
theorem e3_69 {L : Lo} {S : List Value} {h : Hp} {x0 x1 x2 : Option Value} {v : Int32} : Run 3 69 (x0 :: x1 :: x2 :: some (.int v) :: L) S h = Run 3 70 (x0 :: x1 :: x2 :: some (.int v) :: L) (.int v :: S) h := Rg rfl
theorem e3_70 {L : Lo} {S : List Value} {h : Hp} {x : Int32} : Run 3 70 L (.int x :: S) h = if x ≤ 0 then Run 3 120 L S h else Run 3 73 L S h := Rbr (c := cnd .le x 0 = true) (off := 50) rfl rfl cnd_le
theorem e3_73 {L : Lo} {S : List Value} {h : Hp} {v : Nat} : Run 3 73 (some (.ref v) :: L) S h = Run 3 74 (some (.ref v) :: L) (.ref v :: S) h := Rg rfl
theorem e3_74 {L : Lo} {S : List Value} {h : Hp} {b : Nat} : Run 3 74 L (.ref b :: S) h = (gf h 0 4 b).bind fun v => Run 3 77 L (v :: S) h := Rb rfl fun _ => rfl
theorem e3_77 {L : Lo} {S : List Value} {h : Hp} {x0 x1 x2 x3 : Option Value} {y : Option Value} {v : Int32} : Run 3 77 (x0 :: x1 :: x2 :: x3 :: y :: L) (.int v :: S) h = Run 3 79 (x0 :: x1 :: x2 :: ck x3 :: some (.int v) :: L) S h := Rg rfl
theorem e3_79 {L : Lo} {S : List Value} {h : Hp} {x0 x1 : Option Value} {v : Int32} : Run 3 79 (x0 :: x1 :: some (.int v) :: L) S h = Run 3 80 (x0 :: x1 :: some (.int v) :: L) (.int v :: S) h := Rg rfl
theorem e3_80 {L : Lo} {S : List Value} {h : Hp} {x0 x1 x2 x3 : Option Value} {v : Int32} : Run 3 80 (x0 :: x1 :: x2 :: x3 :: some (.int v) :: L) S h = Run 3 82 (x0 :: x1 :: x2 :: x3 :: some (.int v) :: L) (.int v :: S) h := Rg rfl
theorem e3_82 {L : Lo} {S : List Value} {h : Hp} {x z : Int32} : Run 3 82 L (.int z :: .int x :: S) h = if z ≤ x then Run 3 114 L S h else Run 3 85 L S h := Rbr (c := cnd .ge x z = true) (off := 32) rfl rfl cnd_ge
theorem e3_85 {L : Lo} {S : List Value} {h : Hp} {x0 x1 : Option Value} {v : Int32} : Run 3 85 (x0 :: x1 :: some (.int v) :: L) S h = Run 3 86 (x0 :: x1 :: some (.int v) :: L) (.int v :: S) h := Rg rfl
theorem e3_86 {L : Lo} {S : List Value} {h : Hp} {v : Nat} : Run 3 86 (some (.ref v) :: L) S h = Run 3 87 (some (.ref v) :: L) (.ref v :: S) h := Rg rfl
theorem e3_87 {L : Lo} {S : List Value} {h : Hp} {b : Nat} : Run 3 87 L (.ref b :: S) h = (gf h 0 3 b).bind fun v => Run 3 90 L (v :: S) h := Rb rfl fun _ => rfl
theorem e3_90 {L : Lo} {S : List Value} {h : Hp} {b : Nat} : Run 3 90 L (.ref b :: S) h = (alen h b).bind fun N => Run 3 91 L (.int (Int32.ofNat N) :: S) h := Rb rfl fun _ => rfl
theorem e3_91 {L : Lo} {S : List Value} {h : Hp} {x z : Int32} : Run 3 91 L (.int z :: .int x :: S) h = if z ≤ x then Run 3 114 L S h else Run 3 94 L S h := Rbr (c := cnd .ge x z = true) (off := 23) rfl rfl cnd_ge
theorem e3_94 {L : Lo} {S : List Value} {h : Hp} {v : Nat} : Run 3 94 (some (.ref v) :: L) S h = Run 3 95 (some (.ref v) :: L) (.ref v :: S) h := Rg rfl
theorem e3_95 {L : Lo} {S : List Value} {h : Hp} {x0 : Option Value} {v : Nat} : Run 3 95 (x0 :: some (.ref v) :: L) S h = Run 3 96 (x0 :: some (.ref v) :: L) (.ref v :: S) h := Rg rfl
theorem e3_96 {L : Lo} {S : List Value} {h : Hp} {v : Nat} : Run 3 96 (some (.ref v) :: L) S h = Run 3 97 (some (.ref v) :: L) (.ref v :: S) h := Rg rfl
theorem e3_97 {L : Lo} {S : List Value} {h : Hp} {b : Nat} : Run 3 97 L (.ref b :: S) h = (gf h 0 3 b).bind fun v => Run 3 100 L (v :: S) h := Rb rfl fun _ => rfl
theorem e3_100 {L : Lo} {S : List Value} {h : Hp} {x0 x1 : Option Value} {v : Int32} : Run 3 100 (x0 :: x1 :: some (.int v) :: L) S h = Run 3 101 (x0 :: x1 :: some (.int v) :: L) (.int v :: S) h := Rg rfl
theorem e3_101 {L : Lo} {S : List Value} {h : Hp} {i : Int32} {b : Nat} : Run 3 101 L (.int i :: .ref b :: S) h = (gaI h b i).bind fun v => Run 3 102 L (.int v :: S) h := Rb rfl fun _ => rfl
theorem e3_102 {L : Lo} {S : List Value} {h : Hp} {x0 x1 x2 : Option Value} {v : Int32} : Run 3 102 (x0 :: x1 :: x2 :: some (.int v) :: L) S h = Run 3 103 (x0 :: x1 :: x2 :: some (.int v) :: L) (.int v :: S) h := Rg rfl
theorem e3_103 {L : Lo} {S : List Value} {h : Hp} : Run 3 103 L S h = Run 3 104 L (.int 1 :: S) h := Rg rfl
theorem e3_104 {L : Lo} {S : List Value} {h : Hp} {x z : Int32} : Run 3 104 L (.int z :: .int x :: S) h = Run 3 105 L (.int (x - z) :: S) h := Rg rfl
set_option maxRecDepth 100000 in
theorem e3_105 {L : Lo} {h : Hp} {a3 : Int32} {a2 : Int32} {a1 : Nat} {a0 : Nat} (hO : isO h a0 0 = true) : Run 3 105 L [.int a3, .int a2, .ref a1, .ref a0] h = (Run 4 0 [some (.ref a0), some (.ref a1), some (.int a2), some (.int a3), none, none, none, none, none] [] h).bind fun o => aft 3 105 108 L [] o := Rcv (c := 4) (As := [.ref a1, .int a2, .int a3]) (S' := []) (pc' := 108) 0 rfl hO
theorem e3_108 {L : Lo} {S : List Value} {h : Hp} {x0 x1 : Option Value} {v : Int32} : Run 3 108 (x0 :: x1 :: some (.int v) :: L) S h = Run 3 111 (x0 :: x1 :: some (.int (v + 1)) :: L) S h := Rg rfl
theorem e3_111 {L : Lo} {S : List Value} {h : Hp} : Run 3 111 L S h = Run 3 79 L S h := Rg rfl
theorem e3_114 {L : Lo} {S : List Value} {h : Hp} {x0 x1 x2 : Option Value} {v : Int32} : Run 3 114 (x0 :: x1 :: x2 :: some (.int v) :: L) S h = Run 3 117 (x0 :: x1 :: x2 :: some (.int (v + (-1))) :: L) S h := Rg rfl
theorem e3_117 {L : Lo} {S : List Value} {h : Hp} : Run 3 117 L S h = Run 3 69 L S h := Rg rfl
theorem e3_120 {L : Lo} {h : Hp} : Run 3 120 L [] h = some (.inl none, h) := Rd rfl
theorem e4_0 {L : Lo} {S : List Value} {h : Hp} {x0 x1 : Option Value} {v : Int32} : Run 4 0 (x0 :: x1 :: some (.int v) :: L) S h = Run 4 1 (x0 :: x1 :: some (.int v) :: L) (.int v :: S) h := Rg rfl
theorem e4_1 {L : Lo} {S : List Value} {h : Hp} : Run 4 1 L S h = Run 4 3 L (.int 12 :: S) h := Rg rfl
theorem e4_3 {L : Lo} {S : List Value} {h : Hp} {x z : Int32} (hz : ¬ z = 0) : Run 4 3 L (.int z :: .int x :: S) h = Run 4 4 L (.int (x / z) :: S) h := Rg (if_neg hz)
theorem e4_4 {L : Lo} {S : List Value} {h : Hp} {x0 x1 x2 x3 : Option Value} {y : Option Value} {v : Int32} : Run 4 4 (x0 :: x1 :: x2 :: x3 :: y :: L) (.int v :: S) h = Run 4 6 (x0 :: x1 :: x2 :: ck x3 :: some (.int v) :: L) S h := Rg rfl
theorem e4_6 {L : Lo} {S : List Value} {h : Hp} {x0 x1 : Option Value} {v : Int32} : Run 4 6 (x0 :: x1 :: some (.int v) :: L) S h = Run 4 7 (x0 :: x1 :: some (.int v) :: L) (.int v :: S) h := Rg rfl
theorem e4_7 {L : Lo} {S : List Value} {h : Hp} : Run 4 7 L S h = Run 4 9 L (.int 12 :: S) h := Rg rfl
theorem e4_9 {L : Lo} {S : List Value} {h : Hp} {x z : Int32} (hz : ¬ z = 0) : Run 4 9 L (.int z :: .int x :: S) h = Run 4 10 L (.int (x - x / z * z) :: S) h := Rg (if_neg hz)
theorem e4_10 {L : Lo} {S : List Value} {h : Hp} : Run 4 10 L S h = Run 4 11 L (.int 2 :: S) h := Rg rfl
theorem e4_11 {L : Lo} {S : List Value} {h : Hp} {x z : Int32} (hz : ¬ z = 0) : Run 4 11 L (.int z :: .int x :: S) h = Run 4 12 L (.int (x / z) :: S) h := Rg (if_neg hz)
theorem e4_12 {L : Lo} {S : List Value} {h : Hp} {x0 x1 x2 x3 x4 : Option Value} {y : Option Value} {v : Int32} : Run 4 12 (x0 :: x1 :: x2 :: x3 :: x4 :: y :: L) (.int v :: S) h = Run 4 14 (x0 :: x1 :: x2 :: x3 :: ck x4 :: some (.int v) :: L) S h := Rg rfl
theorem e4_14 {L : Lo} {S : List Value} {h : Hp} {x0 x1 : Option Value} {v : Int32} : Run 4 14 (x0 :: x1 :: some (.int v) :: L) S h = Run 4 15 (x0 :: x1 :: some (.int v) :: L) (.int v :: S) h := Rg rfl
theorem e4_15 {L : Lo} {S : List Value} {h : Hp} : Run 4 15 L S h = Run 4 16 L (.int 2 :: S) h := Rg rfl
theorem e4_16 {L : Lo} {S : List Value} {h : Hp} {x z : Int32} (hz : ¬ z = 0) : Run 4 16 L (.int z :: .int x :: S) h = Run 4 17 L (.int (x - x / z * z) :: S) h := Rg (if_neg hz)
theorem e4_17 {L : Lo} {S : List Value} {h : Hp} {x : Int32} : Run 4 17 L (.int x :: S) h = if x = 0 then Run 4 24 L S h else Run 4 20 L S h := Rbr (c := cnd .eq x 0 = true) (off := 7) rfl rfl cnd_eq
theorem e4_20 {L : Lo} {S : List Value} {h : Hp} : Run 4 20 L S h = Run 4 21 L (.int 1 :: S) h := Rg rfl
theorem e4_21 {L : Lo} {S : List Value} {h : Hp} : Run 4 21 L S h = Run 4 25 L S h := Rg rfl
theorem e4_24 {L : Lo} {S : List Value} {h : Hp} : Run 4 24 L S h = Run 4 25 L (.int 0 :: S) h := Rg rfl
theorem e4_25 {L : Lo} {S : List Value} {h : Hp} {x0 x1 x2 x3 x4 x5 : Option Value} {y : Option Value} {v : Int32} : Run 4 25 (x0 :: x1 :: x2 :: x3 :: x4 :: x5 :: y :: L) (.int v :: S) h = Run 4 27 (x0 :: x1 :: x2 :: x3 :: x4 :: ck x5 :: some (.int v) :: L) S h := Rg rfl
theorem e4_27 {L : Lo} {S : List Value} {h : Hp} {v : Nat} : Run 4 27 (some (.ref v) :: L) S h = Run 4 28 (some (.ref v) :: L) (.ref v :: S) h := Rg rfl
theorem e4_28 {L : Lo} {S : List Value} {h : Hp} {b : Nat} : Run 4 28 L (.ref b :: S) h = (gf h 0 0 b).bind fun v => Run 4 31 L (v :: S) h := Rb rfl fun _ => rfl
theorem e4_31 {L : Lo} {S : List Value} {h : Hp} {x0 x1 x2 x3 x4 : Option Value} {v : Int32} : Run 4 31 (x0 :: x1 :: x2 :: x3 :: x4 :: some (.int v) :: L) S h = Run 4 33 (x0 :: x1 :: x2 :: x3 :: x4 :: some (.int v) :: L) (.int v :: S) h := Rg rfl
set_option maxRecDepth 100000 in
theorem e4_33 {L : Lo} {h : Hp} {a1 : Int32} {a0 : Nat} (hO : isO h a0 6 = true) : Run 4 33 L [.int a1, .ref a0] h = (Run 57 0 [some (.ref a0), some (.int a1)] [] h).bind fun o => aft 4 33 36 L [] o := Rcv (c := 57) (As := [.int a1]) (S' := []) (pc' := 36) 6 rfl hO
theorem e4_36 {L : Lo} {S : List Value} {h : Hp} : Run 4 36 L S h = Run 4 37 L (.int 3 :: S) h := Rg rfl
theorem e4_37 {L : Lo} {S : List Value} {h : Hp} {x z : Int32} : Run 4 37 L (.int z :: .int x :: S) h = if x = z then Run 4 84 L S h else Run 4 40 L S h := Rbr (c := cnd .eq x z = true) (off := 47) rfl rfl cnd_eq
theorem e4_40 {L : Lo} {S : List Value} {h : Hp} {v : Nat} : Run 4 40 (some (.ref v) :: L) S h = Run 4 41 (some (.ref v) :: L) (.ref v :: S) h := Rg rfl
theorem e4_41 {L : Lo} {S : List Value} {h : Hp} {b : Nat} : Run 4 41 L (.ref b :: S) h = (gf h 0 0 b).bind fun v => Run 4 44 L (v :: S) h := Rb rfl fun _ => rfl
theorem e4_44 {L : Lo} {S : List Value} {h : Hp} {x0 x1 x2 x3 : Option Value} {v : Int32} : Run 4 44 (x0 :: x1 :: x2 :: x3 :: some (.int v) :: L) S h = Run 4 46 (x0 :: x1 :: x2 :: x3 :: some (.int v) :: L) (.int v :: S) h := Rg rfl
theorem e4_46 {L : Lo} {S : List Value} {h : Hp} {x0 x1 x2 x3 x4 : Option Value} {v : Int32} : Run 4 46 (x0 :: x1 :: x2 :: x3 :: x4 :: some (.int v) :: L) S h = Run 4 48 (x0 :: x1 :: x2 :: x3 :: x4 :: some (.int v) :: L) (.int v :: S) h := Rg rfl
set_option maxRecDepth 100000 in
theorem e4_48 {L : Lo} {h : Hp} {a2 : Int32} {a1 : Int32} {a0 : Nat} (hO : isO h a0 6 = true) : Run 4 48 L [.int a2, .int a1, .ref a0] h = (Run 53 0 [some (.ref a0), some (.int a1), some (.int a2), none, none, none] [] h).bind fun o => aft 4 48 51 L [] o := Rcv (c := 53) (As := [.int a1, .int a2]) (S' := []) (pc' := 51) 6 rfl hO
theorem e4_51 {L : Lo} {S : List Value} {h : Hp} {x0 x1 x2 x3 x4 x5 x6 : Option Value} {y : Option Value} {v : Int32} : Run 4 51 (x0 :: x1 :: x2 :: x3 :: x4 :: x5 :: x6 :: y :: L) (.int v :: S) h = Run 4 53 (x0 :: x1 :: x2 :: x3 :: x4 :: x5 :: ck x6 :: some (.int v) :: L) S h := Rg rfl
theorem e4_53 {L : Lo} {S : List Value} {h : Hp} {x0 x1 x2 x3 x4 x5 x6 : Option Value} {v : Int32} : Run 4 53 (x0 :: x1 :: x2 :: x3 :: x4 :: x5 :: x6 :: some (.int v) :: L) S h = Run 4 55 (x0 :: x1 :: x2 :: x3 :: x4 :: x5 :: x6 :: some (.int v) :: L) (.int v :: S) h := Rg rfl
theorem e4_55 {L : Lo} {S : List Value} {h : Hp} {x0 : Option Value} {v : Nat} : Run 4 55 (x0 :: some (.ref v) :: L) S h = Run 4 56 (x0 :: some (.ref v) :: L) (.ref v :: S) h := Rg rfl
theorem e4_56 {L : Lo} {S : List Value} {h : Hp} {b : Nat} : Run 4 56 L (.ref b :: S) h = (gf h 7 1 b).bind fun v => Run 4 59 L (v :: S) h := Rb rfl fun _ => rfl
theorem e4_59 {L : Lo} {S : List Value} {h : Hp} {x z : Int32} : Run 4 59 L (.int z :: .int x :: S) h = if x = z then Run 4 74 L S h else Run 4 62 L S h := Rbr (c := cnd .eq x z = true) (off := 15) rfl rfl cnd_eq
theorem e4_62 {L : Lo} {S : List Value} {h : Hp} {v : Nat} : Run 4 62 (some (.ref v) :: L) S h = Run 4 63 (some (.ref v) :: L) (.ref v :: S) h := Rg rfl
theorem e4_63 {L : Lo} {S : List Value} {h : Hp} {b : Nat} : Run 4 63 L (.ref b :: S) h = (gf h 0 0 b).bind fun v => Run 4 66 L (v :: S) h := Rb rfl fun _ => rfl
theorem e4_66 {L : Lo} {S : List Value} {h : Hp} {x0 x1 x2 x3 x4 x5 x6 : Option Value} {v : Int32} : Run 4 66 (x0 :: x1 :: x2 :: x3 :: x4 :: x5 :: x6 :: some (.int v) :: L) S h = Run 4 68 (x0 :: x1 :: x2 :: x3 :: x4 :: x5 :: x6 :: some (.int v) :: L) (.int v :: S) h := Rg rfl
set_option maxRecDepth 100000 in
theorem e4_68 {L : Lo} {h : Hp} {a1 : Int32} {a0 : Nat} (hO : isO h a0 6 = true) : Run 4 68 L [.int a1, .ref a0] h = (Run 51 0 [some (.ref a0), some (.int a1)] [] h).bind fun o => aft 4 68 71 L [] o := Rcv (c := 51) (As := [.int a1]) (S' := []) (pc' := 71) 6 rfl hO
theorem e4_71 {L : Lo} {S : List Value} {h : Hp} {x : Int32} : Run 4 71 L (.int x :: S) h = if x = 0 then Run 4 84 L S h else Run 4 74 L S h := Rbr (c := cnd .eq x 0 = true) (off := 13) rfl rfl cnd_eq
theorem e4_74 {L : Lo} {S : List Value} {h : Hp} {v : Nat} : Run 4 74 (some (.ref v) :: L) S h = Run 4 75 (some (.ref v) :: L) (.ref v :: S) h := Rg rfl
theorem e4_75 {L : Lo} {S : List Value} {h : Hp} {x0 x1 x2 x3 x4 x5 x6 : Option Value} {v : Int32} : Run 4 75 (x0 :: x1 :: x2 :: x3 :: x4 :: x5 :: x6 :: some (.int v) :: L) S h = Run 4 77 (x0 :: x1 :: x2 :: x3 :: x4 :: x5 :: x6 :: some (.int v) :: L) (.int v :: S) h := Rg rfl
theorem e4_77 {L : Lo} {S : List Value} {h : Hp} {x0 x1 x2 x3 x4 : Option Value} {v : Int32} : Run 4 77 (x0 :: x1 :: x2 :: x3 :: x4 :: some (.int v) :: L) S h = Run 4 79 (x0 :: x1 :: x2 :: x3 :: x4 :: some (.int v) :: L) (.int v :: S) h := Rg rfl
theorem e4_79 {L : Lo} {S : List Value} {h : Hp} : Run 4 79 L S h = Run 4 80 L (.int 1 :: S) h := Rg rfl
theorem e4_80 {L : Lo} {S : List Value} {h : Hp} {x0 x1 x2 : Option Value} {v : Int32} : Run 4 80 (x0 :: x1 :: x2 :: some (.int v) :: L) S h = Run 4 81 (x0 :: x1 :: x2 :: some (.int v) :: L) (.int v :: S) h := Rg rfl
set_option maxRecDepth 100000 in
theorem e4_81 {L : Lo} {h : Hp} {a4 : Int32} {a3 : Int32} {a2 : Int32} {a1 : Int32} {a0 : Nat} (hO : isO h a0 0 = true) : Run 4 81 L [.int a4, .int a3, .int a2, .int a1, .ref a0] h = (Run 5 0 [some (.ref a0), some (.int a1), some (.int a2), some (.int a3), some (.int a4), none, none] [] h).bind fun o => aft 4 81 84 L [] o := Rcv (c := 5) (As := [.int a1, .int a2, .int a3, .int a4]) (S' := []) (pc' := 84) 0 rfl hO
theorem e4_84 {L : Lo} {S : List Value} {h : Hp} {x0 x1 x2 x3 x4 : Option Value} {v : Int32} : Run 4 84 (x0 :: x1 :: x2 :: x3 :: x4 :: some (.int v) :: L) S h = Run 4 86 (x0 :: x1 :: x2 :: x3 :: x4 :: some (.int v) :: L) (.int v :: S) h := Rg rfl
theorem e4_86 {L : Lo} {S : List Value} {h : Hp} : Run 4 86 L S h = Run 4 87 L (.int 1 :: S) h := Rg rfl
theorem e4_87 {L : Lo} {S : List Value} {h : Hp} {x z : Int32} : Run 4 87 L (.int z :: .int x :: S) h = Run 4 88 L (.int (x + z) :: S) h := Rg rfl
theorem e4_88 {L : Lo} {S : List Value} {h : Hp} : Run 4 88 L S h = Run 4 90 L (.int 6 :: S) h := Rg rfl
theorem e4_90 {L : Lo} {S : List Value} {h : Hp} {x z : Int32} (hz : ¬ z = 0) : Run 4 90 L (.int z :: .int x :: S) h = Run 4 91 L (.int (x - x / z * z) :: S) h := Rg (if_neg hz)
theorem e4_91 {L : Lo} {S : List Value} {h : Hp} {x0 x1 x2 x3 x4 x5 x6 : Option Value} {y : Option Value} {v : Int32} : Run 4 91 (x0 :: x1 :: x2 :: x3 :: x4 :: x5 :: x6 :: y :: L) (.int v :: S) h = Run 4 93 (x0 :: x1 :: x2 :: x3 :: x4 :: x5 :: ck x6 :: some (.int v) :: L) S h := Rg rfl
theorem e4_93 {L : Lo} {S : List Value} {h : Hp} {x0 x1 x2 x3 x4 x5 : Option Value} {v : Int32} : Run 4 93 (x0 :: x1 :: x2 :: x3 :: x4 :: x5 :: some (.int v) :: L) S h = Run 4 95 (x0 :: x1 :: x2 :: x3 :: x4 :: x5 :: some (.int v) :: L) (.int v :: S) h := Rg rfl
theorem e4_95 {L : Lo} {S : List Value} {h : Hp} {x : Int32} : Run 4 95 L (.int x :: S) h = if x = 0 then Run 4 98 L S h else Run 4 111 L S h := RbrN (c := cnd .ne x 0 = true) (off := 16) rfl rfl cnd_ne
theorem e4_98 {L : Lo} {S : List Value} {h : Hp} {v : Nat} : Run 4 98 (some (.ref v) :: L) S h = Run 4 99 (some (.ref v) :: L) (.ref v :: S) h := Rg rfl
theorem e4_99 {L : Lo} {S : List Value} {h : Hp} {b : Nat} : Run 4 99 L (.ref b :: S) h = (gf h 0 0 b).bind fun v => Run 4 102 L (v :: S) h := Rb rfl fun _ => rfl
theorem e4_102 {L : Lo} {S : List Value} {h : Hp} {x0 x1 x2 x3 x4 x5 x6 : Option Value} {v : Int32} : Run 4 102 (x0 :: x1 :: x2 :: x3 :: x4 :: x5 :: x6 :: some (.int v) :: L) S h = Run 4 104 (x0 :: x1 :: x2 :: x3 :: x4 :: x5 :: x6 :: some (.int v) :: L) (.int v :: S) h := Rg rfl
set_option maxRecDepth 100000 in
theorem e4_104 {L : Lo} {h : Hp} {a1 : Int32} {a0 : Nat} (hO : isO h a0 6 = true) : Run 4 104 L [.int a1, .ref a0] h = (Run 57 0 [some (.ref a0), some (.int a1)] [] h).bind fun o => aft 4 104 107 L [] o := Rcv (c := 57) (As := [.int a1]) (S' := []) (pc' := 107) 6 rfl hO
theorem e4_107 {L : Lo} {S : List Value} {h : Hp} : Run 4 107 L S h = Run 4 108 L (.int 3 :: S) h := Rg rfl
theorem e4_108 {L : Lo} {S : List Value} {h : Hp} {x z : Int32} : Run 4 108 L (.int z :: .int x :: S) h = if x = z then Run 4 121 L S h else Run 4 111 L S h := Rbr (c := cnd .eq x z = true) (off := 13) rfl rfl cnd_eq
theorem e4_111 {L : Lo} {S : List Value} {h : Hp} {v : Nat} : Run 4 111 (some (.ref v) :: L) S h = Run 4 112 (some (.ref v) :: L) (.ref v :: S) h := Rg rfl
theorem e4_112 {L : Lo} {S : List Value} {h : Hp} {x0 x1 x2 x3 : Option Value} {v : Int32} : Run 4 112 (x0 :: x1 :: x2 :: x3 :: some (.int v) :: L) S h = Run 4 114 (x0 :: x1 :: x2 :: x3 :: some (.int v) :: L) (.int v :: S) h := Rg rfl
theorem e4_114 {L : Lo} {S : List Value} {h : Hp} {x0 x1 x2 x3 x4 x5 x6 : Option Value} {v : Int32} : Run 4 114 (x0 :: x1 :: x2 :: x3 :: x4 :: x5 :: x6 :: some (.int v) :: L) S h = Run 4 116 (x0 :: x1 :: x2 :: x3 :: x4 :: x5 :: x6 :: some (.int v) :: L) (.int v :: S) h := Rg rfl
theorem e4_116 {L : Lo} {S : List Value} {h : Hp} : Run 4 116 L S h = Run 4 117 L (.int 0 :: S) h := Rg rfl
theorem e4_117 {L : Lo} {S : List Value} {h : Hp} {x0 x1 x2 : Option Value} {v : Int32} : Run 4 117 (x0 :: x1 :: x2 :: some (.int v) :: L) S h = Run 4 118 (x0 :: x1 :: x2 :: some (.int v) :: L) (.int v :: S) h := Rg rfl
set_option maxRecDepth 100000 in
theorem e4_118 {L : Lo} {h : Hp} {a4 : Int32} {a3 : Int32} {a2 : Int32} {a1 : Int32} {a0 : Nat} (hO : isO h a0 0 = true) : Run 4 118 L [.int a4, .int a3, .int a2, .int a1, .ref a0] h = (Run 5 0 [some (.ref a0), some (.int a1), some (.int a2), some (.int a3), some (.int a4), none, none] [] h).bind fun o => aft 4 118 121 L [] o := Rcv (c := 5) (As := [.int a1, .int a2, .int a3, .int a4]) (S' := []) (pc' := 121) 0 rfl hO
theorem e4_121 {L : Lo} {S : List Value} {h : Hp} {x0 x1 x2 x3 x4 : Option Value} {v : Int32} : Run 4 121 (x0 :: x1 :: x2 :: x3 :: x4 :: some (.int v) :: L) S h = Run 4 123 (x0 :: x1 :: x2 :: x3 :: x4 :: some (.int v) :: L) (.int v :: S) h := Rg rfl
theorem e4_123 {L : Lo} {S : List Value} {h : Hp} : Run 4 123 L S h = Run 4 125 L (.int 6 :: S) h := Rg rfl
theorem e4_125 {L : Lo} {S : List Value} {h : Hp} {x z : Int32} : Run 4 125 L (.int z :: .int x :: S) h = Run 4 126 L (.int (x + z) :: S) h := Rg rfl
theorem e4_126 {L : Lo} {S : List Value} {h : Hp} : Run 4 126 L S h = Run 4 127 L (.int 1 :: S) h := Rg rfl
theorem e4_127 {L : Lo} {S : List Value} {h : Hp} {x z : Int32} : Run 4 127 L (.int z :: .int x :: S) h = Run 4 128 L (.int (x - z) :: S) h := Rg rfl
theorem e4_128 {L : Lo} {S : List Value} {h : Hp} : Run 4 128 L S h = Run 4 130 L (.int 6 :: S) h := Rg rfl
theorem e4_130 {L : Lo} {S : List Value} {h : Hp} {x z : Int32} (hz : ¬ z = 0) : Run 4 130 L (.int z :: .int x :: S) h = Run 4 131 L (.int (x - x / z * z) :: S) h := Rg (if_neg hz)
theorem e4_131 {L : Lo} {S : List Value} {h : Hp} {x0 x1 x2 x3 x4 x5 x6 x7 : Option Value} {y : Option Value} {v : Int32} : Run 4 131 (x0 :: x1 :: x2 :: x3 :: x4 :: x5 :: x6 :: x7 :: y :: L) (.int v :: S) h = Run 4 133 (x0 :: x1 :: x2 :: x3 :: x4 :: x5 :: x6 :: ck x7 :: some (.int v) :: L) S h := Rg rfl
theorem e4_133 {L : Lo} {S : List Value} {h : Hp} {x0 x1 x2 x3 x4 x5 : Option Value} {v : Int32} : Run 4 133 (x0 :: x1 :: x2 :: x3 :: x4 :: x5 :: some (.int v) :: L) S h = Run 4 135 (x0 :: x1 :: x2 :: x3 :: x4 :: x5 :: some (.int v) :: L) (.int v :: S) h := Rg rfl
theorem e4_135 {L : Lo} {S : List Value} {h : Hp} {x : Int32} : Run 4 135 L (.int x :: S) h = if x = 0 then Run 4 138 L S h else Run 4 151 L S h := RbrN (c := cnd .ne x 0 = true) (off := 16) rfl rfl cnd_ne
theorem e4_138 {L : Lo} {S : List Value} {h : Hp} {v : Nat} : Run 4 138 (some (.ref v) :: L) S h = Run 4 139 (some (.ref v) :: L) (.ref v :: S) h := Rg rfl
theorem e4_139 {L : Lo} {S : List Value} {h : Hp} {b : Nat} : Run 4 139 L (.ref b :: S) h = (gf h 0 0 b).bind fun v => Run 4 142 L (v :: S) h := Rb rfl fun _ => rfl
theorem e4_142 {L : Lo} {S : List Value} {h : Hp} {x0 x1 x2 x3 x4 x5 x6 x7 : Option Value} {v : Int32} : Run 4 142 (x0 :: x1 :: x2 :: x3 :: x4 :: x5 :: x6 :: x7 :: some (.int v) :: L) S h = Run 4 144 (x0 :: x1 :: x2 :: x3 :: x4 :: x5 :: x6 :: x7 :: some (.int v) :: L) (.int v :: S) h := Rg rfl
set_option maxRecDepth 100000 in
theorem e4_144 {L : Lo} {h : Hp} {a1 : Int32} {a0 : Nat} (hO : isO h a0 6 = true) : Run 4 144 L [.int a1, .ref a0] h = (Run 57 0 [some (.ref a0), some (.int a1)] [] h).bind fun o => aft 4 144 147 L [] o := Rcv (c := 57) (As := [.int a1]) (S' := []) (pc' := 147) 6 rfl hO
theorem e4_147 {L : Lo} {S : List Value} {h : Hp} : Run 4 147 L S h = Run 4 148 L (.int 3 :: S) h := Rg rfl
theorem e4_148 {L : Lo} {S : List Value} {h : Hp} {x z : Int32} : Run 4 148 L (.int z :: .int x :: S) h = if x = z then Run 4 161 L S h else Run 4 151 L S h := Rbr (c := cnd .eq x z = true) (off := 13) rfl rfl cnd_eq
theorem e4_151 {L : Lo} {S : List Value} {h : Hp} {v : Nat} : Run 4 151 (some (.ref v) :: L) S h = Run 4 152 (some (.ref v) :: L) (.ref v :: S) h := Rg rfl
theorem e4_152 {L : Lo} {S : List Value} {h : Hp} {x0 x1 x2 x3 : Option Value} {v : Int32} : Run 4 152 (x0 :: x1 :: x2 :: x3 :: some (.int v) :: L) S h = Run 4 154 (x0 :: x1 :: x2 :: x3 :: some (.int v) :: L) (.int v :: S) h := Rg rfl
theorem e4_154 {L : Lo} {S : List Value} {h : Hp} {x0 x1 x2 x3 x4 x5 x6 x7 : Option Value} {v : Int32} : Run 4 154 (x0 :: x1 :: x2 :: x3 :: x4 :: x5 :: x6 :: x7 :: some (.int v) :: L) S h = Run 4 156 (x0 :: x1 :: x2 :: x3 :: x4 :: x5 :: x6 :: x7 :: some (.int v) :: L) (.int v :: S) h := Rg rfl
theorem e4_156 {L : Lo} {S : List Value} {h : Hp} : Run 4 156 L S h = Run 4 157 L (.int 0 :: S) h := Rg rfl
theorem e4_157 {L : Lo} {S : List Value} {h : Hp} {x0 x1 x2 : Option Value} {v : Int32} : Run 4 157 (x0 :: x1 :: x2 :: some (.int v) :: L) S h = Run 4 158 (x0 :: x1 :: x2 :: some (.int v) :: L) (.int v :: S) h := Rg rfl
set_option maxRecDepth 100000 in
theorem e4_158 {L : Lo} {h : Hp} {a4 : Int32} {a3 : Int32} {a2 : Int32} {a1 : Int32} {a0 : Nat} (hO : isO h a0 0 = true) : Run 4 158 L [.int a4, .int a3, .int a2, .int a1, .ref a0] h = (Run 5 0 [some (.ref a0), some (.int a1), some (.int a2), some (.int a3), some (.int a4), none, none] [] h).bind fun o => aft 4 158 161 L [] o := Rcv (c := 5) (As := [.int a1, .int a2, .int a3, .int a4]) (S' := []) (pc' := 161) 0 rfl hO
theorem e4_161 {L : Lo} {h : Hp} : Run 4 161 L [] h = some (.inl none, h) := Rd rfl
theorem e5_0 {L : Lo} {S : List Value} {h : Hp} {v : Nat} : Run 5 0 (some (.ref v) :: L) S h = Run 5 1 (some (.ref v) :: L) (.ref v :: S) h := Rg rfl
theorem e5_1 {L : Lo} {S : List Value} {h : Hp} {b : Nat} : Run 5 1 L (.ref b :: S) h = (gf h 0 0 b).bind fun v => Run 5 4 L (v :: S) h := Rb rfl fun _ => rfl
theorem e5_4 {L : Lo} {S : List Value} {h : Hp} {x0 : Option Value} {v : Int32} : Run 5 4 (x0 :: some (.int v) :: L) S h = Run 5 5 (x0 :: some (.int v) :: L) (.int v :: S) h := Rg rfl
set_option maxRecDepth 100000 in
theorem e5_5 {L : Lo} {h : Hp} {a1 : Int32} {a0 : Nat} (hO : isO h a0 6 = true) : Run 5 5 L [.int a1, .ref a0] h = (Run 44 0 [some (.ref a0), some (.int a1)] [] h).bind fun o => aft 5 5 8 L [] o := Rcv (c := 44) (As := [.int a1]) (S' := []) (pc' := 8) 6 rfl hO
theorem e5_8 {L : Lo} {S : List Value} {h : Hp} {x : Int32} : Run 5 8 L (.int x :: S) h = if x = 0 then Run 5 23 L S h else Run 5 11 L S h := Rbr (c := cnd .eq x 0 = true) (off := 15) rfl rfl cnd_eq
theorem e5_11 {L : Lo} {S : List Value} {h : Hp} {v : Nat} : Run 5 11 (some (.ref v) :: L) S h = Run 5 12 (some (.ref v) :: L) (.ref v :: S) h := Rg rfl
theorem e5_12 {L : Lo} {S : List Value} {h : Hp} {b : Nat} : Run 5 12 L (.ref b :: S) h = (gf h 0 4 b).bind fun v => Run 5 15 L (v :: S) h := Rb rfl fun _ => rfl
theorem e5_15 {L : Lo} {S : List Value} {h : Hp} {v : Nat} : Run 5 15 (some (.ref v) :: L) S h = Run 5 16 (some (.ref v) :: L) (.ref v :: S) h := Rg rfl
theorem e5_16 {L : Lo} {S : List Value} {h : Hp} {b : Nat} : Run 5 16 L (.ref b :: S) h = (gf h 0 3 b).bind fun v => Run 5 19 L (v :: S) h := Rb rfl fun _ => rfl
theorem e5_19 {L : Lo} {S : List Value} {h : Hp} {b : Nat} : Run 5 19 L (.ref b :: S) h = (alen h b).bind fun N => Run 5 20 L (.int (Int32.ofNat N) :: S) h := Rb rfl fun _ => rfl
theorem e5_20 {L : Lo} {S : List Value} {h : Hp} {x z : Int32} : Run 5 20 L (.int z :: .int x :: S) h = if x < z then Run 5 24 L S h else Run 5 23 L S h := Rbr (c := cnd .lt x z = true) (off := 4) rfl rfl cnd_lt
theorem e5_23 {L : Lo} {h : Hp} : Run 5 23 L [] h = some (.inl none, h) := Rd rfl
theorem e5_24 {L : Lo} {S : List Value} {h : Hp} : Run 5 24 L S h = Run 5 25 L (.int 2 :: S) h := Rg rfl
theorem e5_25 {L : Lo} {S : List Value} {h : Hp} {x0 x1 : Option Value} {v : Int32} : Run 5 25 (x0 :: x1 :: some (.int v) :: L) S h = Run 5 26 (x0 :: x1 :: some (.int v) :: L) (.int v :: S) h := Rg rfl
theorem e5_26 {L : Lo} {S : List Value} {h : Hp} {x z : Int32} : Run 5 26 L (.int z :: .int x :: S) h = Run 5 27 L (.int (x * z) :: S) h := Rg rfl
theorem e5_27 {L : Lo} {S : List Value} {h : Hp} {x0 x1 x2 : Option Value} {v : Int32} : Run 5 27 (x0 :: x1 :: x2 :: some (.int v) :: L) S h = Run 5 28 (x0 :: x1 :: x2 :: some (.int v) :: L) (.int v :: S) h := Rg rfl
theorem e5_28 {L : Lo} {S : List Value} {h : Hp} {x : Int32} : Run 5 28 L (.int x :: S) h = if x = 0 then Run 5 35 L S h else Run 5 31 L S h := Rbr (c := cnd .eq x 0 = true) (off := 7) rfl rfl cnd_eq
theorem e5_31 {L : Lo} {S : List Value} {h : Hp} : Run 5 31 L S h = Run 5 32 L (.int 1 :: S) h := Rg rfl
theorem e5_32 {L : Lo} {S : List Value} {h : Hp} : Run 5 32 L S h = Run 5 36 L S h := Rg rfl
theorem e5_35 {L : Lo} {S : List Value} {h : Hp} : Run 5 35 L S h = Run 5 36 L (.int 0 :: S) h := Rg rfl
theorem e5_36 {L : Lo} {S : List Value} {h : Hp} {x z : Int32} : Run 5 36 L (.int z :: .int x :: S) h = Run 5 37 L (.int (x + z) :: S) h := Rg rfl
theorem e5_37 {L : Lo} {S : List Value} {h : Hp} {x0 x1 x2 x3 x4 : Option Value} {y : Option Value} {v : Int32} : Run 5 37 (x0 :: x1 :: x2 :: x3 :: x4 :: y :: L) (.int v :: S) h = Run 5 39 (x0 :: x1 :: x2 :: x3 :: ck x4 :: some (.int v) :: L) S h := Rg rfl
theorem e5_39 {L : Lo} {S : List Value} {h : Hp} : Run 5 39 L S h = Run 5 40 L (.int 1 :: S) h := Rg rfl
theorem e5_40 {L : Lo} {S : List Value} {h : Hp} {x0 x1 x2 x3 x4 : Option Value} {v : Int32} : Run 5 40 (x0 :: x1 :: x2 :: x3 :: x4 :: some (.int v) :: L) S h = Run 5 42 (x0 :: x1 :: x2 :: x3 :: x4 :: some (.int v) :: L) (.int v :: S) h := Rg rfl
theorem e5_42 {L : Lo} {S : List Value} {h : Hp} {x z : Int32} : Run 5 42 L (.int z :: .int x :: S) h = Run 5 43 L (.int (x <<< (z &&& 31)) :: S) h := Rg rfl
theorem e5_43 {L : Lo} {S : List Value} {h : Hp} {x0 x1 x2 x3 x4 x5 : Option Value} {y : Option Value} {v : Int32} : Run 5 43 (x0 :: x1 :: x2 :: x3 :: x4 :: x5 :: y :: L) (.int v :: S) h = Run 5 45 (x0 :: x1 :: x2 :: x3 :: x4 :: ck x5 :: some (.int v) :: L) S h := Rg rfl
theorem e5_45 {L : Lo} {S : List Value} {h : Hp} {v : Nat} : Run 5 45 (some (.ref v) :: L) S h = Run 5 46 (some (.ref v) :: L) (.ref v :: S) h := Rg rfl
theorem e5_46 {L : Lo} {S : List Value} {h : Hp} {b : Nat} : Run 5 46 L (.ref b :: S) h = (gf h 0 1 b).bind fun v => Run 5 49 L (v :: S) h := Rb rfl fun _ => rfl
theorem e5_49 {L : Lo} {S : List Value} {h : Hp} {x0 : Option Value} {v : Int32} : Run 5 49 (x0 :: some (.int v) :: L) S h = Run 5 50 (x0 :: some (.int v) :: L) (.int v :: S) h := Rg rfl
theorem e5_50 {L : Lo} {S : List Value} {h : Hp} {i : Int32} {b : Nat} : Run 5 50 L (.int i :: .ref b :: S) h = (gaI h b i).bind fun v => Run 5 51 L (.int v :: S) h := Rb rfl fun _ => rfl
theorem e5_51 {L : Lo} {S : List Value} {h : Hp} {x0 x1 x2 x3 x4 x5 : Option Value} {v : Int32} : Run 5 51 (x0 :: x1 :: x2 :: x3 :: x4 :: x5 :: some (.int v) :: L) S h = Run 5 53 (x0 :: x1 :: x2 :: x3 :: x4 :: x5 :: some (.int v) :: L) (.int v :: S) h := Rg rfl
theorem e5_53 {L : Lo} {S : List Value} {h : Hp} {x z : Int32} : Run 5 53 L (.int z :: .int x :: S) h = Run 5 54 L (.int (x &&& z) :: S) h := Rg rfl
theorem e5_54 {L : Lo} {S : List Value} {h : Hp} {x : Int32} : Run 5 54 L (.int x :: S) h = if x = 0 then Run 5 58 L S h else Run 5 57 L S h := Rbr (c := cnd .eq x 0 = true) (off := 4) rfl rfl cnd_eq
theorem e5_57 {L : Lo} {h : Hp} : Run 5 57 L [] h = some (.inl none, h) := Rd rfl
theorem e5_58 {L : Lo} {S : List Value} {h : Hp} {v : Nat} : Run 5 58 (some (.ref v) :: L) S h = Run 5 59 (some (.ref v) :: L) (.ref v :: S) h := Rg rfl
theorem e5_59 {L : Lo} {S : List Value} {h : Hp} {b : Nat} : Run 5 59 L (.ref b :: S) h = (gf h 0 1 b).bind fun v => Run 5 62 L (v :: S) h := Rb rfl fun _ => rfl
theorem e5_62 {L : Lo} {S : List Value} {h : Hp} {x0 : Option Value} {v : Int32} : Run 5 62 (x0 :: some (.int v) :: L) S h = Run 5 63 (x0 :: some (.int v) :: L) (.int v :: S) h := Rg rfl
theorem e5_63 {L : Lo} {S : List Value} {h : Hp} {v : Int32} {w : Nat} : Run 5 63 L (.int v :: .ref w :: S) h = Run 5 64 L (.int v :: .ref w :: .int v :: .ref w :: S) h := Rg rfl
theorem e5_64 {L : Lo} {S : List Value} {h : Hp} {i : Int32} {b : Nat} : Run 5 64 L (.int i :: .ref b :: S) h = (gaI h b i).bind fun v => Run 5 65 L (.int v :: S) h := Rb rfl fun _ => rfl
theorem e5_65 {L : Lo} {S : List Value} {h : Hp} {x0 x1 x2 x3 x4 x5 : Option Value} {v : Int32} : Run 5 65 (x0 :: x1 :: x2 :: x3 :: x4 :: x5 :: some (.int v) :: L) S h = Run 5 67 (x0 :: x1 :: x2 :: x3 :: x4 :: x5 :: some (.int v) :: L) (.int v :: S) h := Rg rfl
theorem e5_67 {L : Lo} {S : List Value} {h : Hp} {x z : Int32} : Run 5 67 L (.int z :: .int x :: S) h = Run 5 68 L (.int (x ||| z) :: S) h := Rg rfl
theorem e5_68 {L : Lo} {S : List Value} {h : Hp} {v : Int32} {i : Int32} {b : Nat} : Run 5 68 L (.int v :: .int i :: .ref b :: S) h = (paI h b i v).bind fun h1 => Run 5 69 L S h1 := Rb rfl fun _ => rfl
theorem e5_69 {L : Lo} {S : List Value} {h : Hp} {v : Nat} : Run 5 69 (some (.ref v) :: L) S h = Run 5 70 (some (.ref v) :: L) (.ref v :: S) h := Rg rfl
theorem e5_70 {L : Lo} {S : List Value} {h : Hp} {b : Nat} : Run 5 70 L (.ref b :: S) h = (gf h 0 3 b).bind fun v => Run 5 73 L (v :: S) h := Rb rfl fun _ => rfl
theorem e5_73 {L : Lo} {S : List Value} {h : Hp} {v : Nat} : Run 5 73 (some (.ref v) :: L) S h = Run 5 74 (some (.ref v) :: L) (.ref v :: S) h := Rg rfl
theorem e5_74 {L : Lo} {S : List Value} {h : Hp} {b : Nat} : Run 5 74 L (.ref b :: S) h = (gf h 0 4 b).bind fun v => Run 5 77 L (v :: S) h := Rb rfl fun _ => rfl
theorem e5_77 {L : Lo} {S : List Value} {h : Hp} {x0 : Option Value} {v : Int32} : Run 5 77 (x0 :: some (.int v) :: L) S h = Run 5 78 (x0 :: some (.int v) :: L) (.int v :: S) h := Rg rfl
theorem e5_78 {L : Lo} {S : List Value} {h : Hp} : Run 5 78 L S h = Run 5 80 L (.int 12 :: S) h := Rg rfl
theorem e5_80 {L : Lo} {S : List Value} {h : Hp} {x z : Int32} : Run 5 80 L (.int z :: .int x :: S) h = Run 5 81 L (.int (x * z) :: S) h := Rg rfl
theorem e5_81 {L : Lo} {S : List Value} {h : Hp} {x0 x1 x2 x3 x4 : Option Value} {v : Int32} : Run 5 81 (x0 :: x1 :: x2 :: x3 :: x4 :: some (.int v) :: L) S h = Run 5 83 (x0 :: x1 :: x2 :: x3 :: x4 :: some (.int v) :: L) (.int v :: S) h := Rg rfl
theorem e5_83 {L : Lo} {S : List Value} {h : Hp} {x z : Int32} : Run 5 83 L (.int z :: .int x :: S) h = Run 5 84 L (.int (x + z) :: S) h := Rg rfl
theorem e5_84 {L : Lo} {S : List Value} {h : Hp} {v : Int32} {i : Int32} {b : Nat} : Run 5 84 L (.int v :: .int i :: .ref b :: S) h = (paI h b i v).bind fun h1 => Run 5 85 L S h1 := Rb rfl fun _ => rfl
theorem e5_85 {L : Lo} {S : List Value} {h : Hp} {v : Nat} : Run 5 85 (some (.ref v) :: L) S h = Run 5 86 (some (.ref v) :: L) (.ref v :: S) h := Rg rfl
theorem e5_86 {L : Lo} {S : List Value} {h : Hp} {v : Nat} : Run 5 86 L (.ref v :: S) h = Run 5 87 L (.ref v :: .ref v :: S) h := Rg rfl
theorem e5_87 {L : Lo} {S : List Value} {h : Hp} {b : Nat} : Run 5 87 L (.ref b :: S) h = (gf h 0 4 b).bind fun v => Run 5 90 L (v :: S) h := Rb rfl fun _ => rfl
theorem e5_90 {L : Lo} {S : List Value} {h : Hp} : Run 5 90 L S h = Run 5 91 L (.int 1 :: S) h := Rg rfl
theorem e5_91 {L : Lo} {S : List Value} {h : Hp} {x z : Int32} : Run 5 91 L (.int z :: .int x :: S) h = Run 5 92 L (.int (x + z) :: S) h := Rg rfl
theorem e5_92 {L : Lo} {S : List Value} {h : Hp} {b : Nat} {v : Value} : Run 5 92 L (v :: .ref b :: S) h = (pf h 0 4 b v).bind fun h1 => Run 5 95 L S h1 := Rb rfl fun _ => rfl
theorem e5_95 {L : Lo} {S : List Value} {h : Hp} {v : Nat} : Run 5 95 (some (.ref v) :: L) S h = Run 5 96 (some (.ref v) :: L) (.ref v :: S) h := Rg rfl
theorem e5_96 {L : Lo} {S : List Value} {h : Hp} {b : Nat} : Run 5 96 L (.ref b :: S) h = (gf h 0 2 b).bind fun v => Run 5 99 L (v :: S) h := Rb rfl fun _ => rfl
theorem e5_99 {L : Lo} {S : List Value} {h : Hp} {x0 : Option Value} {v : Int32} : Run 5 99 (x0 :: some (.int v) :: L) S h = Run 5 100 (x0 :: some (.int v) :: L) (.int v :: S) h := Rg rfl
theorem e5_100 {L : Lo} {S : List Value} {h : Hp} {i : Int32} {b : Nat} : Run 5 100 L (.int i :: .ref b :: S) h = (gaI h b i).bind fun v => Run 5 101 L (.int v :: S) h := Rb rfl fun _ => rfl
theorem e5_101 {L : Lo} {S : List Value} {h : Hp} : Run 5 101 L S h = Run 5 102 L (.int (-1) :: S) h := Rg rfl
theorem e5_102 {L : Lo} {S : List Value} {h : Hp} {x z : Int32} : Run 5 102 L (.int z :: .int x :: S) h = if x = z then Run 5 105 L S h else Run 5 123 L S h := RbrN (c := cnd .ne x z = true) (off := 21) rfl rfl cnd_ne
theorem e5_105 {L : Lo} {S : List Value} {h : Hp} {v : Nat} : Run 5 105 (some (.ref v) :: L) S h = Run 5 106 (some (.ref v) :: L) (.ref v :: S) h := Rg rfl
theorem e5_106 {L : Lo} {S : List Value} {h : Hp} {b : Nat} : Run 5 106 L (.ref b :: S) h = (gf h 0 2 b).bind fun v => Run 5 109 L (v :: S) h := Rb rfl fun _ => rfl
theorem e5_109 {L : Lo} {S : List Value} {h : Hp} {x0 : Option Value} {v : Int32} : Run 5 109 (x0 :: some (.int v) :: L) S h = Run 5 110 (x0 :: some (.int v) :: L) (.int v :: S) h := Rg rfl
theorem e5_110 {L : Lo} {S : List Value} {h : Hp} {x0 x1 x2 x3 : Option Value} {v : Int32} : Run 5 110 (x0 :: x1 :: x2 :: x3 :: some (.int v) :: L) S h = Run 5 112 (x0 :: x1 :: x2 :: x3 :: some (.int v) :: L) (.int v :: S) h := Rg rfl
theorem e5_112 {L : Lo} {S : List Value} {h : Hp} {v : Int32} {i : Int32} {b : Nat} : Run 5 112 L (.int v :: .int i :: .ref b :: S) h = (paI h b i v).bind fun h1 => Run 5 113 L S h1 := Rb rfl fun _ => rfl
theorem e5_113 {L : Lo} {S : List Value} {h : Hp} {v : Nat} : Run 5 113 (some (.ref v) :: L) S h = Run 5 114 (some (.ref v) :: L) (.ref v :: S) h := Rg rfl
theorem e5_114 {L : Lo} {S : List Value} {h : Hp} {v : Nat} : Run 5 114 L (.ref v :: S) h = Run 5 115 L (.ref v :: .ref v :: S) h := Rg rfl
theorem e5_115 {L : Lo} {S : List Value} {h : Hp} {b : Nat} : Run 5 115 L (.ref b :: S) h = (gf h 0 5 b).bind fun v => Run 5 118 L (v :: S) h := Rb rfl fun _ => rfl
theorem e5_118 {L : Lo} {S : List Value} {h : Hp} : Run 5 118 L S h = Run 5 119 L (.int 1 :: S) h := Rg rfl
theorem e5_119 {L : Lo} {S : List Value} {h : Hp} {x z : Int32} : Run 5 119 L (.int z :: .int x :: S) h = Run 5 120 L (.int (x + z) :: S) h := Rg rfl
theorem e5_120 {L : Lo} {S : List Value} {h : Hp} {b : Nat} {v : Value} : Run 5 120 L (v :: .ref b :: S) h = (pf h 0 5 b v).bind fun h1 => Run 5 123 L S h1 := Rb rfl fun _ => rfl
theorem e5_123 {L : Lo} {h : Hp} : Run 5 123 L [] h = some (.inl none, h) := Rd rfl
theorem e6_0 {L : Lo} {S : List Value} {h : Hp} {v : Nat} : Run 6 0 (some (.ref v) :: L) S h = Run 6 1 (some (.ref v) :: L) (.ref v :: S) h := Rg rfl
theorem e6_1 {L : Lo} {h : Hp} {a0 : Nat} : Run 6 1 L [.ref a0] h = Run 6 4 L [] h := Rg rfl
theorem e6_4 {L : Lo} {S : List Value} {h : Hp} {v : Nat} : Run 6 4 (some (.ref v) :: L) S h = Run 6 5 (some (.ref v) :: L) (.ref v :: S) h := Rg rfl
theorem e6_5 {L : Lo} {S : List Value} {h : Hp} {x0 : Option Value} {v : Nat} : Run 6 5 (x0 :: some (.ref v) :: L) S h = Run 6 6 (x0 :: some (.ref v) :: L) (.ref v :: S) h := Rg rfl
theorem e6_6 {L : Lo} {S : List Value} {h : Hp} {b : Nat} {v : Value} : Run 6 6 L (v :: .ref b :: S) h = (pf h 1 0 b v).bind fun h1 => Run 6 9 L S h1 := Rb rfl fun _ => rfl
theorem e6_9 {L : Lo} {h : Hp} : Run 6 9 L [] h = some (.inl none, h) := Rd rfl
theorem e7_0 {L : Lo} {S : List Value} {h : Hp} {x0 : Option Value} {v : Nat} : Run 7 0 (x0 :: some (.ref v) :: L) S h = Run 7 1 (x0 :: some (.ref v) :: L) (.ref v :: S) h := Rg rfl
set_option maxRecDepth 100000 in
theorem e7_1 {L : Lo} {h : Hp} {a0 : Nat} (hO : isO h a0 7 = true) : Run 7 1 L [.ref a0] h = (Run 73 0 [some (.ref a0)] [] h).bind fun o => aft 7 1 4 L [] o := Rcv (c := 73) (As := []) (S' := []) (pc' := 4) 7 rfl hO
theorem e7_4 {L : Lo} {S : List Value} {h : Hp} {x : Int32} : Run 7 4 L (.int x :: S) h = if x = 0 then Run 7 62 L S h else Run 7 7 L S h := Rbr (c := cnd .eq x 0 = true) (off := 58) rfl rfl cnd_eq
theorem e7_7 {L : Lo} {S : List Value} {h : Hp} {x0 x1 : Option Value} {v : Nat} : Run 7 7 (x0 :: x1 :: some (.ref v) :: L) S h = Run 7 8 (x0 :: x1 :: some (.ref v) :: L) (.ref v :: S) h := Rg rfl
set_option maxRecDepth 100000 in
theorem e7_8 {L : Lo} {h : Hp} {a0 : Nat} (hO : isO h a0 7 = true) : Run 7 8 L [.ref a0] h = (Run 73 0 [some (.ref a0)] [] h).bind fun o => aft 7 8 11 L [] o := Rcv (c := 73) (As := []) (S' := []) (pc' := 11) 7 rfl hO
theorem e7_11 {L : Lo} {S : List Value} {h : Hp} {x : Int32} : Run 7 11 L (.int x :: S) h = if x = 0 then Run 7 62 L S h else Run 7 14 L S h := Rbr (c := cnd .eq x 0 = true) (off := 51) rfl rfl cnd_eq
theorem e7_14 {L : Lo} {S : List Value} {h : Hp} {x0 : Option Value} {v : Nat} : Run 7 14 (x0 :: some (.ref v) :: L) S h = Run 7 15 (x0 :: some (.ref v) :: L) (.ref v :: S) h := Rg rfl
theorem e7_15 {L : Lo} {S : List Value} {h : Hp} {b : Nat} : Run 7 15 L (.ref b :: S) h = (gf h 7 0 b).bind fun v => Run 7 18 L (v :: S) h := Rb rfl fun _ => rfl
theorem e7_18 {L : Lo} {S : List Value} {h : Hp} {x0 x1 : Option Value} {v : Nat} : Run 7 18 (x0 :: x1 :: some (.ref v) :: L) S h = Run 7 19 (x0 :: x1 :: some (.ref v) :: L) (.ref v :: S) h := Rg rfl
theorem e7_19 {L : Lo} {S : List Value} {h : Hp} {b : Nat} : Run 7 19 L (.ref b :: S) h = (gf h 7 0 b).bind fun v => Run 7 22 L (v :: S) h := Rb rfl fun _ => rfl
theorem e7_22 {L : Lo} {S : List Value} {h : Hp} {x z : Int32} : Run 7 22 L (.int z :: .int x :: S) h = if x = z then Run 7 62 L S h else Run 7 25 L S h := Rbr (c := cnd .eq x z = true) (off := 40) rfl rfl cnd_eq
theorem e7_25 {L : Lo} {S : List Value} {h : Hp} {x0 : Option Value} {v : Nat} : Run 7 25 (x0 :: some (.ref v) :: L) S h = Run 7 26 (x0 :: some (.ref v) :: L) (.ref v :: S) h := Rg rfl
set_option maxRecDepth 100000 in
theorem e7_26 {L : Lo} {h : Hp} {a0 : Nat} (hO : isO h a0 7 = true) : Run 7 26 L [.ref a0] h = (Run 74 0 [some (.ref a0)] [] h).bind fun o => aft 7 26 29 L [] o := Rcv (c := 74) (As := []) (S' := []) (pc' := 29) 7 rfl hO
theorem e7_29 {L : Lo} {S : List Value} {h : Hp} {x : Int32} : Run 7 29 L (.int x :: S) h = if x = 0 then Run 7 32 L S h else Run 7 62 L S h := RbrN (c := cnd .ne x 0 = true) (off := 33) rfl rfl cnd_ne
theorem e7_32 {L : Lo} {S : List Value} {h : Hp} {x0 x1 : Option Value} {v : Nat} : Run 7 32 (x0 :: x1 :: some (.ref v) :: L) S h = Run 7 33 (x0 :: x1 :: some (.ref v) :: L) (.ref v :: S) h := Rg rfl
set_option maxRecDepth 100000 in
theorem e7_33 {L : Lo} {h : Hp} {a0 : Nat} (hO : isO h a0 7 = true) : Run 7 33 L [.ref a0] h = (Run 74 0 [some (.ref a0)] [] h).bind fun o => aft 7 33 36 L [] o := Rcv (c := 74) (As := []) (S' := []) (pc' := 36) 7 rfl hO
theorem e7_36 {L : Lo} {S : List Value} {h : Hp} {x : Int32} : Run 7 36 L (.int x :: S) h = if x = 0 then Run 7 39 L S h else Run 7 62 L S h := RbrN (c := cnd .ne x 0 = true) (off := 26) rfl rfl cnd_ne
theorem e7_39 {L : Lo} {S : List Value} {h : Hp} {v : Nat} : Run 7 39 (some (.ref v) :: L) S h = Run 7 40 (some (.ref v) :: L) (.ref v :: S) h := Rg rfl
theorem e7_40 {L : Lo} {S : List Value} {h : Hp} {b : Nat} : Run 7 40 L (.ref b :: S) h = (gf h 1 0 b).bind fun v => Run 7 43 L (v :: S) h := Rb rfl fun _ => rfl
theorem e7_43 {L : Lo} {S : List Value} {h : Hp} {x0 : Option Value} {v : Nat} : Run 7 43 (x0 :: some (.ref v) :: L) S h = Run 7 44 (x0 :: some (.ref v) :: L) (.ref v :: S) h := Rg rfl
theorem e7_44 {L : Lo} {S : List Value} {h : Hp} {b : Nat} : Run 7 44 L (.ref b :: S) h = (gf h 7 1 b).bind fun v => Run 7 47 L (v :: S) h := Rb rfl fun _ => rfl
theorem e7_47 {L : Lo} {S : List Value} {h : Hp} {x0 x1 : Option Value} {v : Nat} : Run 7 47 (x0 :: x1 :: some (.ref v) :: L) S h = Run 7 48 (x0 :: x1 :: some (.ref v) :: L) (.ref v :: S) h := Rg rfl
theorem e7_48 {L : Lo} {S : List Value} {h : Hp} {b : Nat} : Run 7 48 L (.ref b :: S) h = (gf h 7 1 b).bind fun v => Run 7 51 L (v :: S) h := Rb rfl fun _ => rfl
set_option maxRecDepth 100000 in
theorem e7_51 {L : Lo} {h : Hp} {a2 : Int32} {a1 : Int32} {a0 : Nat} (hO : isO h a0 6 = true) : Run 7 51 L [.int a2, .int a1, .ref a0] h = (Run 54 0 [some (.ref a0), some (.int a1), some (.int a2), none, none] [] h).bind fun o => aft 7 51 54 L [] o := Rcv (c := 54) (As := [.int a1, .int a2]) (S' := []) (pc' := 54) 6 rfl hO
theorem e7_54 {L : Lo} {S : List Value} {h : Hp} : Run 7 54 L S h = Run 7 55 L (.int 1 :: S) h := Rg rfl
theorem e7_55 {L : Lo} {S : List Value} {h : Hp} {x z : Int32} : Run 7 55 L (.int z :: .int x :: S) h = if x = z then Run 7 58 L S h else Run 7 62 L S h := RbrN (c := cnd .ne x z = true) (off := 7) rfl rfl cnd_ne
theorem e7_58 {L : Lo} {S : List Value} {h : Hp} : Run 7 58 L S h = Run 7 59 L (.int 1 :: S) h := Rg rfl
theorem e7_59 {L : Lo} {S : List Value} {h : Hp} : Run 7 59 L S h = Run 7 63 L S h := Rg rfl
theorem e7_62 {L : Lo} {S : List Value} {h : Hp} : Run 7 62 L S h = Run 7 63 L (.int 0 :: S) h := Rg rfl
theorem e7_63 {L : Lo} {h : Hp} {x : Int32} (hx : narrow .boolean (.int x) = .int x) : Run 7 63 L [.int x] h = some (.inl (some (.int x)), h) := Rd (if_pos hx)
theorem e8_0 {L : Lo} {S : List Value} {h : Hp} {x0 : Option Value} {v : Nat} : Run 8 0 (x0 :: some (.ref v) :: L) S h = Run 8 1 (x0 :: some (.ref v) :: L) (.ref v :: S) h := Rg rfl
theorem e8_1 {L : Lo} {S : List Value} {h : Hp} {b : Nat} : Run 8 1 L (.ref b :: S) h = (gf h 7 7 b).bind fun v => Run 8 4 L (v :: S) h := Rb rfl fun _ => rfl
theorem e8_4 {L : Lo} {S : List Value} {h : Hp} {x0 x1 x2 : Option Value} {y : Option Value} {v : Int32} : Run 8 4 (x0 :: x1 :: x2 :: y :: L) (.int v :: S) h = Run 8 5 (x0 :: x1 :: ck x2 :: some (.int v) :: L) S h := Rg rfl
theorem e8_5 {L : Lo} {S : List Value} {h : Hp} {x0 x1 : Option Value} {v : Nat} : Run 8 5 (x0 :: x1 :: some (.ref v) :: L) S h = Run 8 6 (x0 :: x1 :: some (.ref v) :: L) (.ref v :: S) h := Rg rfl
theorem e8_6 {L : Lo} {S : List Value} {h : Hp} {b : Nat} : Run 8 6 L (.ref b :: S) h = (gf h 7 7 b).bind fun v => Run 8 9 L (v :: S) h := Rb rfl fun _ => rfl
theorem e8_9 {L : Lo} {S : List Value} {h : Hp} {x0 x1 x2 x3 : Option Value} {y : Option Value} {v : Int32} : Run 8 9 (x0 :: x1 :: x2 :: x3 :: y :: L) (.int v :: S) h = Run 8 11 (x0 :: x1 :: x2 :: ck x3 :: some (.int v) :: L) S h := Rg rfl
theorem e8_11 {L : Lo} {S : List Value} {h : Hp} {x0 x1 : Option Value} {v : Nat} : Run 8 11 (x0 :: x1 :: some (.ref v) :: L) S h = Run 8 12 (x0 :: x1 :: some (.ref v) :: L) (.ref v :: S) h := Rg rfl
theorem e8_12 {L : Lo} {S : List Value} {h : Hp} {x0 x1 x2 x3 : Option Value} {v : Int32} : Run 8 12 (x0 :: x1 :: x2 :: x3 :: some (.int v) :: L) S h = Run 8 14 (x0 :: x1 :: x2 :: x3 :: some (.int v) :: L) (.int v :: S) h := Rg rfl
theorem e8_14 {L : Lo} {S : List Value} {h : Hp} {x0 x1 x2 : Option Value} {v : Int32} : Run 8 14 (x0 :: x1 :: x2 :: some (.int v) :: L) S h = Run 8 15 (x0 :: x1 :: x2 :: some (.int v) :: L) (.int v :: S) h := Rg rfl
theorem e8_15 {L : Lo} {S : List Value} {h : Hp} : Run 8 15 L S h = Run 8 16 L (.int 2 :: S) h := Rg rfl
theorem e8_16 {L : Lo} {S : List Value} {h : Hp} {x z : Int32} : Run 8 16 L (.int z :: .int x :: S) h = Run 8 17 L (.int (x + z) :: S) h := Rg rfl
theorem e8_17 {L : Lo} {S : List Value} {h : Hp} : Run 8 17 L S h = Run 8 18 L (.int 3 :: S) h := Rg rfl
theorem e8_18 {L : Lo} {S : List Value} {h : Hp} {x z : Int32} (hz : ¬ z = 0) : Run 8 18 L (.int z :: .int x :: S) h = Run 8 19 L (.int (x / z) :: S) h := Rg (if_neg hz)
theorem e8_19 {L : Lo} {S : List Value} {h : Hp} {x z : Int32} : Run 8 19 L (.int z :: .int x :: S) h = Run 8 20 L (.int (x - z) :: S) h := Rg rfl
theorem e8_20 {L : Lo} {S : List Value} {h : Hp} {b : Nat} {v : Value} : Run 8 20 L (v :: .ref b :: S) h = (pf h 7 7 b v).bind fun h1 => Run 8 23 L S h1 := Rb rfl fun _ => rfl
theorem e8_23 {L : Lo} {S : List Value} {h : Hp} {x0 : Option Value} {v : Nat} : Run 8 23 (x0 :: some (.ref v) :: L) S h = Run 8 24 (x0 :: some (.ref v) :: L) (.ref v :: S) h := Rg rfl
theorem e8_24 {L : Lo} {S : List Value} {h : Hp} : Run 8 24 L S h = Run 8 25 L (.int 1 :: S) h := Rg rfl
theorem e8_25 {L : Lo} {S : List Value} {h : Hp} {x0 x1 x2 : Option Value} {v : Int32} : Run 8 25 (x0 :: x1 :: x2 :: some (.int v) :: L) S h = Run 8 26 (x0 :: x1 :: x2 :: some (.int v) :: L) (.int v :: S) h := Rg rfl
theorem e8_26 {L : Lo} {S : List Value} {h : Hp} {x0 x1 x2 x3 : Option Value} {v : Int32} : Run 8 26 (x0 :: x1 :: x2 :: x3 :: some (.int v) :: L) S h = Run 8 28 (x0 :: x1 :: x2 :: x3 :: some (.int v) :: L) (.int v :: S) h := Rg rfl
theorem e8_28 {L : Lo} {S : List Value} {h : Hp} : Run 8 28 L S h = Run 8 29 L (.int 3 :: S) h := Rg rfl
theorem e8_29 {L : Lo} {S : List Value} {h : Hp} {x z : Int32} : Run 8 29 L (.int z :: .int x :: S) h = Run 8 30 L (.int (x + z) :: S) h := Rg rfl
theorem e8_30 {L : Lo} {S : List Value} {h : Hp} : Run 8 30 L S h = Run 8 31 L (.int 4 :: S) h := Rg rfl
theorem e8_31 {L : Lo} {S : List Value} {h : Hp} {x z : Int32} (hz : ¬ z = 0) : Run 8 31 L (.int z :: .int x :: S) h = Run 8 32 L (.int (x / z) :: S) h := Rg (if_neg hz)
theorem e8_32 {L : Lo} {S : List Value} {h : Hp} {x z : Int32} : Run 8 32 L (.int z :: .int x :: S) h = Run 8 33 L (.int (x - z) :: S) h := Rg rfl
set_option maxRecDepth 100000 in
theorem e8_33 {L : Lo} {h : Hp} {a2 : Int32} {a1 : Int32} {a0 : Nat} : Run 8 33 L [.int a2, .int a1, .ref a0] h = (Run 116 0 [some (.int a1), some (.int a2)] [] h).bind fun o => aft 8 33 36 L [.ref a0] o := Rc (c := 116) (As := [.int a1, .int a2]) (S' := [.ref a0]) (pc' := 36) rfl
theorem e8_36 {L : Lo} {S : List Value} {h : Hp} {b : Nat} {v : Value} : Run 8 36 L (v :: .ref b :: S) h = (pf h 7 7 b v).bind fun h1 => Run 8 39 L S h1 := Rb rfl fun _ => rfl
theorem e8_39 {L : Lo} {S : List Value} {h : Hp} {x0 : Option Value} {v : Nat} : Run 8 39 (x0 :: some (.ref v) :: L) S h = Run 8 40 (x0 :: some (.ref v) :: L) (.ref v :: S) h := Rg rfl
theorem e8_40 {L : Lo} {S : List Value} {h : Hp} : Run 8 40 L S h = Run 8 41 L (.int 1 :: S) h := Rg rfl
theorem e8_41 {L : Lo} {S : List Value} {h : Hp} {b : Nat} {v : Value} : Run 8 41 L (v :: .ref b :: S) h = (pf h 7 13 b v).bind fun h1 => Run 8 44 L S h1 := Rb rfl fun _ => rfl
theorem e8_44 {L : Lo} {S : List Value} {h : Hp} {x0 x1 : Option Value} {v : Nat} : Run 8 44 (x0 :: x1 :: some (.ref v) :: L) S h = Run 8 45 (x0 :: x1 :: some (.ref v) :: L) (.ref v :: S) h := Rg rfl
theorem e8_45 {L : Lo} {S : List Value} {h : Hp} {b : Nat} : Run 8 45 L (.ref b :: S) h = (gf h 7 7 b).bind fun v => Run 8 48 L (v :: S) h := Rb rfl fun _ => rfl
theorem e8_48 {L : Lo} {S : List Value} {h : Hp} {x : Int32} : Run 8 48 L (.int x :: S) h = if x ≤ 0 then Run 8 53 L S h else Run 8 51 L S h := Rbr (c := cnd .le x 0 = true) (off := 5) rfl rfl cnd_le
theorem e8_51 {L : Lo} {S : List Value} {h : Hp} : Run 8 51 L S h = Run 8 52 L (.int 0 :: S) h := Rg rfl
theorem e8_52 {L : Lo} {h : Hp} {x : Int32} (hx : narrow .boolean (.int x) = .int x) : Run 8 52 L [.int x] h = some (.inl (some (.int x)), h) := Rd (if_pos hx)
theorem e8_53 {L : Lo} {S : List Value} {h : Hp} {v : Nat} : Run 8 53 (some (.ref v) :: L) S h = Run 8 54 (some (.ref v) :: L) (.ref v :: S) h := Rg rfl
theorem e8_54 {L : Lo} {S : List Value} {h : Hp} {x0 : Option Value} {v : Nat} : Run 8 54 (x0 :: some (.ref v) :: L) S h = Run 8 55 (x0 :: some (.ref v) :: L) (.ref v :: S) h := Rg rfl
theorem e8_55 {L : Lo} {S : List Value} {h : Hp} {x0 x1 : Option Value} {v : Nat} : Run 8 55 (x0 :: x1 :: some (.ref v) :: L) S h = Run 8 56 (x0 :: x1 :: some (.ref v) :: L) (.ref v :: S) h := Rg rfl
set_option maxRecDepth 100000 in
theorem e8_56 {L : Lo} {h : Hp} {a2 : Nat} {a1 : Nat} {a0 : Nat} (hO : isO h a0 1 = true) : Run 8 56 L [.ref a2, .ref a1, .ref a0] h = (Run 9 0 [some (.ref a0), some (.ref a1), some (.ref a2), none, none] [] h).bind fun o => aft 8 56 59 L [] o := Rcv (c := 9) (As := [.ref a1, .ref a2]) (S' := []) (pc' := 59) 1 rfl hO
theorem e8_59 {L : Lo} {S : List Value} {h : Hp} : Run 8 59 L S h = Run 8 60 L (.int 1 :: S) h := Rg rfl
theorem e8_60 {L : Lo} {h : Hp} {x : Int32} (hx : narrow .boolean (.int x) = .int x) : Run 8 60 L [.int x] h = some (.inl (some (.int x)), h) := Rd (if_pos hx)
theorem e9_0 {L : Lo} {S : List Value} {h : Hp} {x0 : Option Value} {v : Nat} : Run 9 0 (x0 :: some (.ref v) :: L) S h = Run 9 1 (x0 :: some (.ref v) :: L) (.ref v :: S) h := Rg rfl
theorem e9_1 {L : Lo} {S : List Value} {h : Hp} {b : Nat} : Run 9 1 L (.ref b :: S) h = (gf h 7 7 b).bind fun v => Run 9 4 L (v :: S) h := Rb rfl fun _ => rfl
theorem e9_4 {L : Lo} {S : List Value} {h : Hp} {x0 x1 x2 : Option Value} {y : Option Value} {v : Int32} : Run 9 4 (x0 :: x1 :: x2 :: y :: L) (.int v :: S) h = Run 9 5 (x0 :: x1 :: ck x2 :: some (.int v) :: L) S h := Rg rfl
theorem e9_5 {L : Lo} {S : List Value} {h : Hp} {x0 x1 x2 : Option Value} {v : Int32} : Run 9 5 (x0 :: x1 :: x2 :: some (.int v) :: L) S h = Run 9 6 (x0 :: x1 :: x2 :: some (.int v) :: L) (.int v :: S) h := Rg rfl
theorem e9_6 {L : Lo} {S : List Value} {h : Hp} : Run 9 6 L S h = Run 9 7 L (.int 3 :: S) h := Rg rfl
theorem e9_7 {L : Lo} {S : List Value} {h : Hp} {x z : Int32} : Run 9 7 L (.int z :: .int x :: S) h = Run 9 8 L (.int (x + z) :: S) h := Rg rfl
theorem e9_8 {L : Lo} {S : List Value} {h : Hp} : Run 9 8 L S h = Run 9 9 L (.int 4 :: S) h := Rg rfl
theorem e9_9 {L : Lo} {S : List Value} {h : Hp} {x z : Int32} (hz : ¬ z = 0) : Run 9 9 L (.int z :: .int x :: S) h = Run 9 10 L (.int (x / z) :: S) h := Rg (if_neg hz)
theorem e9_10 {L : Lo} {S : List Value} {h : Hp} {x0 x1 x2 : Option Value} {v : Int32} : Run 9 10 (x0 :: x1 :: x2 :: some (.int v) :: L) S h = Run 9 11 (x0 :: x1 :: x2 :: some (.int v) :: L) (.int v :: S) h := Rg rfl
theorem e9_11 {L : Lo} {S : List Value} {h : Hp} : Run 9 11 L S h = Run 9 12 L (.int 1 :: S) h := Rg rfl
theorem e9_12 {L : Lo} {S : List Value} {h : Hp} {x z : Int32} : Run 9 12 L (.int z :: .int x :: S) h = Run 9 13 L (.int (x - z) :: S) h := Rg rfl
set_option maxRecDepth 100000 in
theorem e9_13 {L : Lo} {h : Hp} {a1 : Int32} {a0 : Int32} : Run 9 13 L [.int a1, .int a0] h = (Run 117 0 [some (.int a0), some (.int a1)] [] h).bind fun o => aft 9 13 16 L [] o := Rc (c := 117) (As := [.int a0, .int a1]) (S' := []) (pc' := 16) rfl
theorem e9_16 {L : Lo} {S : List Value} {h : Hp} {x0 x1 x2 x3 : Option Value} {y : Option Value} {v : Int32} : Run 9 16 (x0 :: x1 :: x2 :: x3 :: y :: L) (.int v :: S) h = Run 9 18 (x0 :: x1 :: x2 :: ck x3 :: some (.int v) :: L) S h := Rg rfl
theorem e9_18 {L : Lo} {S : List Value} {h : Hp} {x0 : Option Value} {v : Nat} : Run 9 18 (x0 :: some (.ref v) :: L) S h = Run 9 19 (x0 :: some (.ref v) :: L) (.ref v :: S) h := Rg rfl
theorem e9_19 {L : Lo} {S : List Value} {h : Hp} {x0 x1 x2 : Option Value} {v : Int32} : Run 9 19 (x0 :: x1 :: x2 :: some (.int v) :: L) S h = Run 9 20 (x0 :: x1 :: x2 :: some (.int v) :: L) (.int v :: S) h := Rg rfl
theorem e9_20 {L : Lo} {S : List Value} {h : Hp} {x0 x1 x2 x3 : Option Value} {v : Int32} : Run 9 20 (x0 :: x1 :: x2 :: x3 :: some (.int v) :: L) S h = Run 9 22 (x0 :: x1 :: x2 :: x3 :: some (.int v) :: L) (.int v :: S) h := Rg rfl
theorem e9_22 {L : Lo} {S : List Value} {h : Hp} {x z : Int32} : Run 9 22 L (.int z :: .int x :: S) h = Run 9 23 L (.int (x - z) :: S) h := Rg rfl
theorem e9_23 {L : Lo} {S : List Value} {h : Hp} {b : Nat} {v : Value} : Run 9 23 L (v :: .ref b :: S) h = (pf h 7 7 b v).bind fun h1 => Run 9 26 L S h1 := Rb rfl fun _ => rfl
theorem e9_26 {L : Lo} {S : List Value} {h : Hp} {x0 x1 : Option Value} {v : Nat} : Run 9 26 (x0 :: x1 :: some (.ref v) :: L) S h = Run 9 27 (x0 :: x1 :: some (.ref v) :: L) (.ref v :: S) h := Rg rfl
theorem e9_27 {L : Lo} {S : List Value} {h : Hp} : Run 9 27 L S h = Run 9 28 L (.int 1 :: S) h := Rg rfl
theorem e9_28 {L : Lo} {S : List Value} {h : Hp} {x0 x1 x2 x3 : Option Value} {v : Int32} : Run 9 28 (x0 :: x1 :: x2 :: x3 :: some (.int v) :: L) S h = Run 9 30 (x0 :: x1 :: x2 :: x3 :: some (.int v) :: L) (.int v :: S) h := Rg rfl
set_option maxRecDepth 100000 in
theorem e9_30 {L : Lo} {h : Hp} {a2 : Int32} {a1 : Int32} {a0 : Nat} : Run 9 30 L [.int a2, .int a1, .ref a0] h = (Run 116 0 [some (.int a1), some (.int a2)] [] h).bind fun o => aft 9 30 33 L [.ref a0] o := Rc (c := 116) (As := [.int a1, .int a2]) (S' := [.ref a0]) (pc' := 33) rfl
theorem e9_33 {L : Lo} {S : List Value} {h : Hp} {b : Nat} {v : Value} : Run 9 33 L (v :: .ref b :: S) h = (pf h 7 7 b v).bind fun h1 => Run 9 36 L S h1 := Rb rfl fun _ => rfl
theorem e9_36 {L : Lo} {S : List Value} {h : Hp} {x0 x1 : Option Value} {v : Nat} : Run 9 36 (x0 :: x1 :: some (.ref v) :: L) S h = Run 9 37 (x0 :: x1 :: some (.ref v) :: L) (.ref v :: S) h := Rg rfl
theorem e9_37 {L : Lo} {S : List Value} {h : Hp} {x0 : Option Value} {v : Nat} : Run 9 37 (x0 :: some (.ref v) :: L) S h = Run 9 38 (x0 :: some (.ref v) :: L) (.ref v :: S) h := Rg rfl
theorem e9_38 {L : Lo} {S : List Value} {h : Hp} {b : Nat} : Run 9 38 L (.ref b :: S) h = (gf h 7 0 b).bind fun v => Run 9 41 L (v :: S) h := Rb rfl fun _ => rfl
theorem e9_41 {L : Lo} {S : List Value} {h : Hp} {b : Nat} {v : Value} : Run 9 41 L (v :: .ref b :: S) h = (pf h 7 0 b v).bind fun h1 => Run 9 44 L S h1 := Rb rfl fun _ => rfl
theorem e9_44 {L : Lo} {S : List Value} {h : Hp} {v : Nat} : Run 9 44 (some (.ref v) :: L) S h = Run 9 45 (some (.ref v) :: L) (.ref v :: S) h := Rg rfl
theorem e9_45 {L : Lo} {S : List Value} {h : Hp} {b : Nat} : Run 9 45 L (.ref b :: S) h = (gf h 1 0 b).bind fun v => Run 9 48 L (v :: S) h := Rb rfl fun _ => rfl
theorem e9_48 {L : Lo} {S : List Value} {h : Hp} {x0 : Option Value} {v : Nat} : Run 9 48 (x0 :: some (.ref v) :: L) S h = Run 9 49 (x0 :: some (.ref v) :: L) (.ref v :: S) h := Rg rfl
set_option maxRecDepth 100000 in
theorem e9_49 {L : Lo} {h : Hp} {a1 : Nat} {a0 : Nat} (hO : isO h a0 6 = true) : Run 9 49 L [.ref a1, .ref a0] h = (Run 62 0 [some (.ref a0), some (.ref a1)] [] h).bind fun o => aft 9 49 52 L [] o := Rcv (c := 62) (As := [.ref a1]) (S' := []) (pc' := 52) 6 rfl hO
theorem e9_52 {L : Lo} {h : Hp} : Run 9 52 L [] h = some (.inl none, h) := Rd rfl
theorem e10_0 {L : Lo} {S : List Value} {h : Hp} {v : Nat} : Run 10 0 (some (.ref v) :: L) S h = Run 10 1 (some (.ref v) :: L) (.ref v :: S) h := Rg rfl
theorem e10_1 {L : Lo} {h : Hp} {a0 : Nat} : Run 10 1 L [.ref a0] h = Run 10 4 L [] h := Rg rfl
theorem e10_4 {L : Lo} {S : List Value} {h : Hp} {v : Nat} : Run 10 4 (some (.ref v) :: L) S h = Run 10 5 (some (.ref v) :: L) (.ref v :: S) h := Rg rfl
theorem e10_5 {L : Lo} {S : List Value} {h : Hp} {x0 : Option Value} {v : Nat} : Run 10 5 (x0 :: some (.ref v) :: L) S h = Run 10 6 (x0 :: some (.ref v) :: L) (.ref v :: S) h := Rg rfl
theorem e10_6 {L : Lo} {S : List Value} {h : Hp} {b : Nat} {v : Value} : Run 10 6 L (v :: .ref b :: S) h = (pf h 2 0 b v).bind fun h1 => Run 10 9 L S h1 := Rb rfl fun _ => rfl
theorem e10_9 {L : Lo} {h : Hp} : Run 10 9 L [] h = some (.inl none, h) := Rd rfl
theorem e11_0 {L : Lo} {S : List Value} {h : Hp} {x0 : Option Value} {v : Int32} : Run 11 0 (x0 :: some (.int v) :: L) S h = Run 11 1 (x0 :: some (.int v) :: L) (.int v :: S) h := Rg rfl
theorem e11_1 {L : Lo} {S : List Value} {h : Hp} : Run 11 1 L S h = Run 11 2 L (.int (-1) :: S) h := Rg rfl
theorem e11_2 {L : Lo} {S : List Value} {h : Hp} {x z : Int32} : Run 11 2 L (.int z :: .int x :: S) h = if x = z then Run 11 5 L S h else Run 11 7 L S h := RbrN (c := cnd .ne x z = true) (off := 5) rfl rfl cnd_ne
theorem e11_5 {L : Lo} {S : List Value} {h : Hp} : Run 11 5 L S h = Run 11 6 L (.int (-1) :: S) h := Rg rfl
theorem e11_6 {L : Lo} {h : Hp} {x : Int32} : Run 11 6 L [.int x] h = some (.inl (some (.int x)), h) := Rd (if_pos (c := narrow .int (.int x) = .int x) rfl)
theorem e11_7 {L : Lo} {S : List Value} {h : Hp} {x0 : Option Value} {v : Int32} : Run 11 7 (x0 :: some (.int v) :: L) S h = Run 11 8 (x0 :: some (.int v) :: L) (.int v :: S) h := Rg rfl
theorem e11_8 {L : Lo} {S : List Value} {h : Hp} : Run 11 8 L S h = Run 11 10 L (.int 10 :: S) h := Rg rfl
theorem e11_10 {L : Lo} {S : List Value} {h : Hp} {x z : Int32} : Run 11 10 L (.int z :: .int x :: S) h = if x < z then Run 11 17 L S h else Run 11 13 L S h := Rbr (c := cnd .lt x z = true) (off := 7) rfl rfl cnd_lt
theorem e11_13 {L : Lo} {S : List Value} {h : Hp} : Run 11 13 L S h = Run 11 14 L (.int 1 :: S) h := Rg rfl
theorem e11_14 {L : Lo} {S : List Value} {h : Hp} : Run 11 14 L S h = Run 11 18 L S h := Rg rfl
theorem e11_17 {L : Lo} {S : List Value} {h : Hp} : Run 11 17 L S h = Run 11 18 L (.int 0 :: S) h := Rg rfl
theorem e11_18 {L : Lo} {S : List Value} {h : Hp} {x0 x1 : Option Value} {y : Option Value} {v : Int32} : Run 11 18 (x0 :: x1 :: y :: L) (.int v :: S) h = Run 11 19 (x0 :: ck x1 :: some (.int v) :: L) S h := Rg rfl
theorem e11_19 {L : Lo} {S : List Value} {h : Hp} {x0 : Option Value} {v : Int32} : Run 11 19 (x0 :: some (.int v) :: L) S h = Run 11 20 (x0 :: some (.int v) :: L) (.int v :: S) h := Rg rfl
theorem e11_20 {L : Lo} {S : List Value} {h : Hp} : Run 11 20 L S h = Run 11 22 L (.int 10 :: S) h := Rg rfl
theorem e11_22 {L : Lo} {S : List Value} {h : Hp} {x z : Int32} (hz : ¬ z = 0) : Run 11 22 L (.int z :: .int x :: S) h = Run 11 23 L (.int (x - x / z * z) :: S) h := Rg (if_neg hz)
theorem e11_23 {L : Lo} {S : List Value} {h : Hp} {v : Int32} : Run 11 23 (some (.int v) :: L) S h = Run 11 24 (some (.int v) :: L) (.int v :: S) h := Rg rfl
theorem e11_24 {L : Lo} {S : List Value} {h : Hp} {x z : Int32} : Run 11 24 L (.int z :: .int x :: S) h = Run 11 25 L (.int (x - z) :: S) h := Rg rfl
theorem e11_25 {L : Lo} {S : List Value} {h : Hp} : Run 11 25 L S h = Run 11 27 L (.int 6 :: S) h := Rg rfl
set_option maxRecDepth 100000 in
theorem e11_27 {L : Lo} {h : Hp} {a1 : Int32} {a0 : Int32} : Run 11 27 L [.int a1, .int a0] h = (Run 114 0 [some (.int a0), some (.int a1), none] [] h).bind fun o => aft 11 27 30 L [] o := Rc (c := 114) (As := [.int a0, .int a1]) (S' := []) (pc' := 30) rfl
theorem e11_30 {L : Lo} {S : List Value} {h : Hp} {x0 x1 x2 : Option Value} {y : Option Value} {v : Int32} : Run 11 30 (x0 :: x1 :: x2 :: y :: L) (.int v :: S) h = Run 11 31 (x0 :: x1 :: ck x2 :: some (.int v) :: L) S h := Rg rfl
theorem e11_31 {L : Lo} {S : List Value} {h : Hp} {x0 x1 x2 : Option Value} {v : Int32} : Run 11 31 (x0 :: x1 :: x2 :: some (.int v) :: L) S h = Run 11 32 (x0 :: x1 :: x2 :: some (.int v) :: L) (.int v :: S) h := Rg rfl
theorem e11_32 {L : Lo} {S : List Value} {h : Hp} : Run 11 32 L S h = Run 11 33 L (.int 1 :: S) h := Rg rfl
theorem e11_33 {L : Lo} {S : List Value} {h : Hp} {x z : Int32} : Run 11 33 L (.int z :: .int x :: S) h = if x = z then Run 11 45 L S h else Run 11 36 L S h := Rbr (c := cnd .eq x z = true) (off := 12) rfl rfl cnd_eq
theorem e11_36 {L : Lo} {S : List Value} {h : Hp} {x0 x1 x2 : Option Value} {v : Int32} : Run 11 36 (x0 :: x1 :: x2 :: some (.int v) :: L) S h = Run 11 37 (x0 :: x1 :: x2 :: some (.int v) :: L) (.int v :: S) h := Rg rfl
theorem e11_37 {L : Lo} {S : List Value} {h : Hp} : Run 11 37 L S h = Run 11 38 L (.int 2 :: S) h := Rg rfl
theorem e11_38 {L : Lo} {S : List Value} {h : Hp} {x z : Int32} : Run 11 38 L (.int z :: .int x :: S) h = if x = z then Run 11 41 L S h else Run 11 47 L S h := RbrN (c := cnd .ne x z = true) (off := 9) rfl rfl cnd_ne
theorem e11_41 {L : Lo} {S : List Value} {h : Hp} {x0 x1 : Option Value} {v : Int32} : Run 11 41 (x0 :: x1 :: some (.int v) :: L) S h = Run 11 42 (x0 :: x1 :: some (.int v) :: L) (.int v :: S) h := Rg rfl
theorem e11_42 {L : Lo} {S : List Value} {h : Hp} {x : Int32} : Run 11 42 L (.int x :: S) h = if x = 0 then Run 11 47 L S h else Run 11 45 L S h := Rbr (c := cnd .eq x 0 = true) (off := 5) rfl rfl cnd_eq
theorem e11_45 {L : Lo} {S : List Value} {h : Hp} : Run 11 45 L S h = Run 11 46 L (.int 1 :: S) h := Rg rfl
theorem e11_46 {L : Lo} {h : Hp} {x : Int32} : Run 11 46 L [.int x] h = some (.inl (some (.int x)), h) := Rd (if_pos (c := narrow .int (.int x) = .int x) rfl)
theorem e11_47 {L : Lo} {S : List Value} {h : Hp} {x0 x1 x2 : Option Value} {v : Int32} : Run 11 47 (x0 :: x1 :: x2 :: some (.int v) :: L) S h = Run 11 48 (x0 :: x1 :: x2 :: some (.int v) :: L) (.int v :: S) h := Rg rfl
theorem e11_48 {L : Lo} {S : List Value} {h : Hp} : Run 11 48 L S h = Run 11 49 L (.int 4 :: S) h := Rg rfl
theorem e11_49 {L : Lo} {S : List Value} {h : Hp} {x z : Int32} : Run 11 49 L (.int z :: .int x :: S) h = if x = z then Run 11 61 L S h else Run 11 52 L S h := Rbr (c := cnd .eq x z = true) (off := 12) rfl rfl cnd_eq
theorem e11_52 {L : Lo} {S : List Value} {h : Hp} {x0 x1 x2 : Option Value} {v : Int32} : Run 11 52 (x0 :: x1 :: x2 :: some (.int v) :: L) S h = Run 11 53 (x0 :: x1 :: x2 :: some (.int v) :: L) (.int v :: S) h := Rg rfl
theorem e11_53 {L : Lo} {S : List Value} {h : Hp} : Run 11 53 L S h = Run 11 54 L (.int 5 :: S) h := Rg rfl
theorem e11_54 {L : Lo} {S : List Value} {h : Hp} {x z : Int32} : Run 11 54 L (.int z :: .int x :: S) h = if x = z then Run 11 57 L S h else Run 11 63 L S h := RbrN (c := cnd .ne x z = true) (off := 9) rfl rfl cnd_ne
theorem e11_57 {L : Lo} {S : List Value} {h : Hp} {x0 x1 : Option Value} {v : Int32} : Run 11 57 (x0 :: x1 :: some (.int v) :: L) S h = Run 11 58 (x0 :: x1 :: some (.int v) :: L) (.int v :: S) h := Rg rfl
theorem e11_58 {L : Lo} {S : List Value} {h : Hp} {x : Int32} : Run 11 58 L (.int x :: S) h = if x = 0 then Run 11 63 L S h else Run 11 61 L S h := Rbr (c := cnd .eq x 0 = true) (off := 5) rfl rfl cnd_eq
theorem e11_61 {L : Lo} {S : List Value} {h : Hp} : Run 11 61 L S h = Run 11 62 L (.int 0 :: S) h := Rg rfl
theorem e11_62 {L : Lo} {h : Hp} {x : Int32} : Run 11 62 L [.int x] h = some (.inl (some (.int x)), h) := Rd (if_pos (c := narrow .int (.int x) = .int x) rfl)
theorem e11_63 {L : Lo} {S : List Value} {h : Hp} : Run 11 63 L S h = Run 11 64 L (.int (-1) :: S) h := Rg rfl
theorem e11_64 {L : Lo} {h : Hp} {x : Int32} : Run 11 64 L [.int x] h = some (.inl (some (.int x)), h) := Rd (if_pos (c := narrow .int (.int x) = .int x) rfl)
theorem e12_0 {L : Lo} {S : List Value} {h : Hp} {v : Nat} : Run 12 0 (some (.ref v) :: L) S h = Run 12 1 (some (.ref v) :: L) (.ref v :: S) h := Rg rfl
theorem e12_1 {L : Lo} {S : List Value} {h : Hp} {b : Nat} : Run 12 1 L (.ref b :: S) h = (gf h 2 0 b).bind fun v => Run 12 4 L (v :: S) h := Rb rfl fun _ => rfl
theorem e12_4 {L : Lo} {S : List Value} {h : Hp} {x0 : Option Value} {v : Int32} : Run 12 4 (x0 :: some (.int v) :: L) S h = Run 12 5 (x0 :: some (.int v) :: L) (.int v :: S) h := Rg rfl
theorem e12_5 {L : Lo} {S : List Value} {h : Hp} {x0 x1 : Option Value} {v : Int32} : Run 12 5 (x0 :: x1 :: some (.int v) :: L) S h = Run 12 6 (x0 :: x1 :: some (.int v) :: L) (.int v :: S) h := Rg rfl
set_option maxRecDepth 100000 in
theorem e12_6 {L : Lo} {h : Hp} {a2 : Int32} {a1 : Int32} {a0 : Nat} (hO : isO h a0 6 = true) : Run 12 6 L [.int a2, .int a1, .ref a0] h = (Run 55 0 [some (.ref a0), some (.int a1), some (.int a2), none, none, none] [] h).bind fun o => aft 12 6 9 L [] o := Rcv (c := 55) (As := [.int a1, .int a2]) (S' := []) (pc' := 9) 6 rfl hO
theorem e12_9 {L : Lo} {S : List Value} {h : Hp} {x0 x1 x2 : Option Value} {y : Option Value} {v : Int32} : Run 12 9 (x0 :: x1 :: x2 :: y :: L) (.int v :: S) h = Run 12 10 (x0 :: x1 :: ck x2 :: some (.int v) :: L) S h := Rg rfl
theorem e12_10 {L : Lo} {S : List Value} {h : Hp} {x0 x1 x2 : Option Value} {v : Int32} : Run 12 10 (x0 :: x1 :: x2 :: some (.int v) :: L) S h = Run 12 11 (x0 :: x1 :: x2 :: some (.int v) :: L) (.int v :: S) h := Rg rfl
theorem e12_11 {L : Lo} {S : List Value} {h : Hp} : Run 12 11 L S h = Run 12 13 L (.int 10 :: S) h := Rg rfl
theorem e12_13 {L : Lo} {S : List Value} {h : Hp} {x z : Int32} : Run 12 13 L (.int z :: .int x :: S) h = if z ≤ x then Run 12 18 L S h else Run 12 16 L S h := Rbr (c := cnd .ge x z = true) (off := 5) rfl rfl cnd_ge
theorem e12_16 {L : Lo} {S : List Value} {h : Hp} : Run 12 16 L S h = Run 12 17 L (.int 0 :: S) h := Rg rfl
theorem e12_17 {L : Lo} {h : Hp} {x : Int32} (hx : narrow .boolean (.int x) = .int x) : Run 12 17 L [.int x] h = some (.inl (some (.int x)), h) := Rd (if_pos hx)
theorem e12_18 {L : Lo} {S : List Value} {h : Hp} {v : Nat} : Run 12 18 (some (.ref v) :: L) S h = Run 12 19 (some (.ref v) :: L) (.ref v :: S) h := Rg rfl
theorem e12_19 {L : Lo} {S : List Value} {h : Hp} {b : Nat} : Run 12 19 L (.ref b :: S) h = (gf h 2 0 b).bind fun v => Run 12 22 L (v :: S) h := Rb rfl fun _ => rfl
theorem e12_22 {L : Lo} {S : List Value} {h : Hp} {x0 : Option Value} {v : Int32} : Run 12 22 (x0 :: some (.int v) :: L) S h = Run 12 23 (x0 :: some (.int v) :: L) (.int v :: S) h := Rg rfl
theorem e12_23 {L : Lo} {S : List Value} {h : Hp} {x0 x1 : Option Value} {v : Int32} : Run 12 23 (x0 :: x1 :: some (.int v) :: L) S h = Run 12 24 (x0 :: x1 :: some (.int v) :: L) (.int v :: S) h := Rg rfl
set_option maxRecDepth 100000 in
theorem e12_24 {L : Lo} {h : Hp} {a2 : Int32} {a1 : Int32} {a0 : Nat} (hO : isO h a0 6 = true) : Run 12 24 L [.int a2, .int a1, .ref a0] h = (Run 54 0 [some (.ref a0), some (.int a1), some (.int a2), none, none] [] h).bind fun o => aft 12 24 27 L [] o := Rcv (c := 54) (As := [.int a1, .int a2]) (S' := []) (pc' := 27) 6 rfl hO
theorem e12_27 {L : Lo} {S : List Value} {h : Hp} {x0 x1 x2 x3 : Option Value} {y : Option Value} {v : Int32} : Run 12 27 (x0 :: x1 :: x2 :: x3 :: y :: L) (.int v :: S) h = Run 12 29 (x0 :: x1 :: x2 :: ck x3 :: some (.int v) :: L) S h := Rg rfl
theorem e12_29 {L : Lo} {S : List Value} {h : Hp} {x0 : Option Value} {v : Int32} : Run 12 29 (x0 :: some (.int v) :: L) S h = Run 12 30 (x0 :: some (.int v) :: L) (.int v :: S) h := Rg rfl
theorem e12_30 {L : Lo} {S : List Value} {h : Hp} {x0 x1 x2 x3 x4 : Option Value} {y : Option Value} {v : Int32} : Run 12 30 (x0 :: x1 :: x2 :: x3 :: x4 :: y :: L) (.int v :: S) h = Run 12 32 (x0 :: x1 :: x2 :: x3 :: ck x4 :: some (.int v) :: L) S h := Rg rfl
theorem e12_32 {L : Lo} {S : List Value} {h : Hp} : Run 12 32 L S h = Run 12 33 L (.int 1 :: S) h := Rg rfl
theorem e12_33 {L : Lo} {S : List Value} {h : Hp} {x0 x1 x2 x3 x4 x5 : Option Value} {y : Option Value} {v : Int32} : Run 12 33 (x0 :: x1 :: x2 :: x3 :: x4 :: x5 :: y :: L) (.int v :: S) h = Run 12 35 (x0 :: x1 :: x2 :: x3 :: x4 :: ck x5 :: some (.int v) :: L) S h := Rg rfl
theorem e12_35 {L : Lo} {S : List Value} {h : Hp} {x0 x1 x2 x3 x4 x5 : Option Value} {v : Int32} : Run 12 35 (x0 :: x1 :: x2 :: x3 :: x4 :: x5 :: some (.int v) :: L) S h = Run 12 37 (x0 :: x1 :: x2 :: x3 :: x4 :: x5 :: some (.int v) :: L) (.int v :: S) h := Rg rfl
theorem e12_37 {L : Lo} {S : List Value} {h : Hp} {x0 x1 x2 x3 : Option Value} {v : Int32} : Run 12 37 (x0 :: x1 :: x2 :: x3 :: some (.int v) :: L) S h = Run 12 39 (x0 :: x1 :: x2 :: x3 :: some (.int v) :: L) (.int v :: S) h := Rg rfl
theorem e12_39 {L : Lo} {S : List Value} {h : Hp} {x z : Int32} : Run 12 39 L (.int z :: .int x :: S) h = if z ≤ x then Run 12 77 L S h else Run 12 42 L S h := Rbr (c := cnd .ge x z = true) (off := 38) rfl rfl cnd_ge
theorem e12_42 {L : Lo} {S : List Value} {h : Hp} {v : Nat} : Run 12 42 (some (.ref v) :: L) S h = Run 12 43 (some (.ref v) :: L) (.ref v :: S) h := Rg rfl
theorem e12_43 {L : Lo} {S : List Value} {h : Hp} {b : Nat} : Run 12 43 L (.ref b :: S) h = (gf h 2 0 b).bind fun v => Run 12 46 L (v :: S) h := Rb rfl fun _ => rfl
theorem e12_46 {L : Lo} {S : List Value} {h : Hp} {x0 x1 x2 x3 x4 : Option Value} {v : Int32} : Run 12 46 (x0 :: x1 :: x2 :: x3 :: x4 :: some (.int v) :: L) S h = Run 12 48 (x0 :: x1 :: x2 :: x3 :: x4 :: some (.int v) :: L) (.int v :: S) h := Rg rfl
theorem e12_48 {L : Lo} {S : List Value} {h : Hp} {x0 x1 x2 : Option Value} {v : Int32} : Run 12 48 (x0 :: x1 :: x2 :: some (.int v) :: L) S h = Run 12 49 (x0 :: x1 :: x2 :: some (.int v) :: L) (.int v :: S) h := Rg rfl
theorem e12_49 {L : Lo} {S : List Value} {h : Hp} : Run 12 49 L S h = Run 12 51 L (.int 10 :: S) h := Rg rfl
theorem e12_51 {L : Lo} {S : List Value} {h : Hp} {x z : Int32} : Run 12 51 L (.int z :: .int x :: S) h = Run 12 52 L (.int (x - z) :: S) h := Rg rfl
set_option maxRecDepth 100000 in
theorem e12_52 {L : Lo} {h : Hp} {a2 : Int32} {a1 : Int32} {a0 : Nat} (hO : isO h a0 6 = true) : Run 12 52 L [.int a2, .int a1, .ref a0] h = (Run 53 0 [some (.ref a0), some (.int a1), some (.int a2), none, none, none] [] h).bind fun o => aft 12 52 55 L [] o := Rcv (c := 53) (As := [.int a1, .int a2]) (S' := []) (pc' := 55) 6 rfl hO
theorem e12_55 {L : Lo} {S : List Value} {h : Hp} {x0 x1 x2 x3 x4 : Option Value} {y : Option Value} {v : Int32} : Run 12 55 (x0 :: x1 :: x2 :: x3 :: x4 :: y :: L) (.int v :: S) h = Run 12 57 (x0 :: x1 :: x2 :: x3 :: ck x4 :: some (.int v) :: L) S h := Rg rfl
theorem e12_57 {L : Lo} {S : List Value} {h : Hp} {v : Nat} : Run 12 57 (some (.ref v) :: L) S h = Run 12 58 (some (.ref v) :: L) (.ref v :: S) h := Rg rfl
theorem e12_58 {L : Lo} {S : List Value} {h : Hp} {b : Nat} : Run 12 58 L (.ref b :: S) h = (gf h 2 0 b).bind fun v => Run 12 61 L (v :: S) h := Rb rfl fun _ => rfl
theorem e12_61 {L : Lo} {S : List Value} {h : Hp} {x0 x1 x2 x3 x4 : Option Value} {v : Int32} : Run 12 61 (x0 :: x1 :: x2 :: x3 :: x4 :: some (.int v) :: L) S h = Run 12 63 (x0 :: x1 :: x2 :: x3 :: x4 :: some (.int v) :: L) (.int v :: S) h := Rg rfl
set_option maxRecDepth 100000 in
theorem e12_63 {L : Lo} {h : Hp} {a1 : Int32} {a0 : Nat} (hO : isO h a0 6 = true) : Run 12 63 L [.int a1, .ref a0] h = (Run 51 0 [some (.ref a0), some (.int a1)] [] h).bind fun o => aft 12 63 66 L [] o := Rcv (c := 51) (As := [.int a1]) (S' := []) (pc' := 66) 6 rfl hO
theorem e12_66 {L : Lo} {S : List Value} {h : Hp} {x : Int32} : Run 12 66 L (.int x :: S) h = if x = 0 then Run 12 69 L S h else Run 12 71 L S h := RbrN (c := cnd .ne x 0 = true) (off := 5) rfl rfl cnd_ne
theorem e12_69 {L : Lo} {S : List Value} {h : Hp} : Run 12 69 L S h = Run 12 70 L (.int 1 :: S) h := Rg rfl
theorem e12_70 {L : Lo} {h : Hp} {x : Int32} (hx : narrow .boolean (.int x) = .int x) : Run 12 70 L [.int x] h = some (.inl (some (.int x)), h) := Rd (if_pos hx)
theorem e12_71 {L : Lo} {S : List Value} {h : Hp} {x0 x1 x2 x3 x4 x5 : Option Value} {v : Int32} : Run 12 71 (x0 :: x1 :: x2 :: x3 :: x4 :: x5 :: some (.int v) :: L) S h = Run 12 74 (x0 :: x1 :: x2 :: x3 :: x4 :: x5 :: some (.int (v + 1)) :: L) S h := Rg rfl
theorem e12_74 {L : Lo} {S : List Value} {h : Hp} : Run 12 74 L S h = Run 12 35 L S h := Rg rfl
theorem e12_77 {L : Lo} {S : List Value} {h : Hp} : Run 12 77 L S h = Run 12 78 L (.int 0 :: S) h := Rg rfl
theorem e12_78 {L : Lo} {h : Hp} {x : Int32} (hx : narrow .boolean (.int x) = .int x) : Run 12 78 L [.int x] h = some (.inl (some (.int x)), h) := Rd (if_pos hx)
theorem e13_0 {L : Lo} {S : List Value} {h : Hp} {v : Nat} : Run 13 0 (some (.ref v) :: L) S h = Run 13 1 (some (.ref v) :: L) (.ref v :: S) h := Rg rfl
theorem e13_1 {L : Lo} {S : List Value} {h : Hp} {b : Nat} : Run 13 1 L (.ref b :: S) h = (gf h 2 0 b).bind fun v => Run 13 4 L (v :: S) h := Rb rfl fun _ => rfl
theorem e13_4 {L : Lo} {S : List Value} {h : Hp} {x0 x1 : Option Value} {v : Nat} : Run 13 4 (x0 :: x1 :: some (.ref v) :: L) S h = Run 13 5 (x0 :: x1 :: some (.ref v) :: L) (.ref v :: S) h := Rg rfl
theorem e13_5 {L : Lo} {S : List Value} {h : Hp} {b : Nat} : Run 13 5 L (.ref b :: S) h = (gf h 7 1 b).bind fun v => Run 13 8 L (v :: S) h := Rb rfl fun _ => rfl
theorem e13_8 {L : Lo} {S : List Value} {h : Hp} {x0 : Option Value} {v : Nat} : Run 13 8 (x0 :: some (.ref v) :: L) S h = Run 13 9 (x0 :: some (.ref v) :: L) (.ref v :: S) h := Rg rfl
theorem e13_9 {L : Lo} {S : List Value} {h : Hp} {b : Nat} : Run 13 9 L (.ref b :: S) h = (gf h 7 1 b).bind fun v => Run 13 12 L (v :: S) h := Rb rfl fun _ => rfl
set_option maxRecDepth 100000 in
theorem e13_12 {L : Lo} {h : Hp} {a2 : Int32} {a1 : Int32} {a0 : Nat} (hO : isO h a0 6 = true) : Run 13 12 L [.int a2, .int a1, .ref a0] h = (Run 55 0 [some (.ref a0), some (.int a1), some (.int a2), none, none, none] [] h).bind fun o => aft 13 12 15 L [] o := Rcv (c := 55) (As := [.int a1, .int a2]) (S' := []) (pc' := 15) 6 rfl hO
theorem e13_15 {L : Lo} {S : List Value} {h : Hp} {x0 x1 x2 : Option Value} {y : Option Value} {v : Int32} : Run 13 15 (x0 :: x1 :: x2 :: y :: L) (.int v :: S) h = Run 13 16 (x0 :: x1 :: ck x2 :: some (.int v) :: L) S h := Rg rfl
theorem e13_16 {L : Lo} {S : List Value} {h : Hp} {x0 x1 x2 : Option Value} {v : Int32} : Run 13 16 (x0 :: x1 :: x2 :: some (.int v) :: L) S h = Run 13 17 (x0 :: x1 :: x2 :: some (.int v) :: L) (.int v :: S) h := Rg rfl
theorem e13_17 {L : Lo} {S : List Value} {h : Hp} : Run 13 17 L S h = Run 13 19 L (.int 10 :: S) h := Rg rfl
theorem e13_19 {L : Lo} {S : List Value} {h : Hp} {x z : Int32} : Run 13 19 L (.int z :: .int x :: S) h = if z ≤ x then Run 13 24 L S h else Run 13 22 L S h := Rbr (c := cnd .ge x z = true) (off := 5) rfl rfl cnd_ge
theorem e13_22 {L : Lo} {S : List Value} {h : Hp} : Run 13 22 L S h = Run 13 23 L (.int 0 :: S) h := Rg rfl
theorem e13_23 {L : Lo} {h : Hp} {x : Int32} (hx : narrow .boolean (.int x) = .int x) : Run 13 23 L [.int x] h = some (.inl (some (.int x)), h) := Rd (if_pos hx)
theorem e13_24 {L : Lo} {S : List Value} {h : Hp} {x0 x1 x2 : Option Value} {v : Int32} : Run 13 24 (x0 :: x1 :: x2 :: some (.int v) :: L) S h = Run 13 25 (x0 :: x1 :: x2 :: some (.int v) :: L) (.int v :: S) h := Rg rfl
theorem e13_25 {L : Lo} {S : List Value} {h : Hp} : Run 13 25 L S h = Run 13 27 L (.int 10 :: S) h := Rg rfl
theorem e13_27 {L : Lo} {S : List Value} {h : Hp} {x z : Int32} : Run 13 27 L (.int z :: .int x :: S) h = Run 13 28 L (.int (x - z) :: S) h := Rg rfl
theorem e13_28 {L : Lo} {S : List Value} {h : Hp} {x0 x1 : Option Value} {v : Nat} : Run 13 28 (x0 :: x1 :: some (.ref v) :: L) S h = Run 13 29 (x0 :: x1 :: some (.ref v) :: L) (.ref v :: S) h := Rg rfl
theorem e13_29 {L : Lo} {S : List Value} {h : Hp} {b : Nat} : Run 13 29 L (.ref b :: S) h = (gf h 7 2 b).bind fun v => Run 13 32 L (v :: S) h := Rb rfl fun _ => rfl
theorem e13_32 {L : Lo} {S : List Value} {h : Hp} {x z : Int32} : Run 13 32 L (.int z :: .int x :: S) h = Run 13 33 L (.int (x - z) :: S) h := Rg rfl
theorem e13_33 {L : Lo} {S : List Value} {h : Hp} : Run 13 33 L S h = Run 13 35 L (.int 6 :: S) h := Rg rfl
set_option maxRecDepth 100000 in
theorem e13_35 {L : Lo} {h : Hp} {a1 : Int32} {a0 : Int32} : Run 13 35 L [.int a1, .int a0] h = (Run 114 0 [some (.int a0), some (.int a1), none] [] h).bind fun o => aft 13 35 38 L [] o := Rc (c := 114) (As := [.int a0, .int a1]) (S' := []) (pc' := 38) rfl
theorem e13_38 {L : Lo} {S : List Value} {h : Hp} {x0 x1 x2 x3 : Option Value} {y : Option Value} {v : Int32} : Run 13 38 (x0 :: x1 :: x2 :: x3 :: y :: L) (.int v :: S) h = Run 13 40 (x0 :: x1 :: x2 :: ck x3 :: some (.int v) :: L) S h := Rg rfl
theorem e13_40 {L : Lo} {S : List Value} {h : Hp} {x0 x1 x2 x3 : Option Value} {v : Int32} : Run 13 40 (x0 :: x1 :: x2 :: x3 :: some (.int v) :: L) S h = Run 13 42 (x0 :: x1 :: x2 :: x3 :: some (.int v) :: L) (.int v :: S) h := Rg rfl
theorem e13_42 {L : Lo} {S : List Value} {h : Hp} {x : Int32} : Run 13 42 L (.int x :: S) h = if x = 0 then Run 13 51 L S h else Run 13 45 L S h := Rbr (c := cnd .eq x 0 = true) (off := 9) rfl rfl cnd_eq
theorem e13_45 {L : Lo} {S : List Value} {h : Hp} {x0 x1 x2 x3 : Option Value} {v : Int32} : Run 13 45 (x0 :: x1 :: x2 :: x3 :: some (.int v) :: L) S h = Run 13 47 (x0 :: x1 :: x2 :: x3 :: some (.int v) :: L) (.int v :: S) h := Rg rfl
theorem e13_47 {L : Lo} {S : List Value} {h : Hp} : Run 13 47 L S h = Run 13 48 L (.int 3 :: S) h := Rg rfl
theorem e13_48 {L : Lo} {S : List Value} {h : Hp} {x z : Int32} : Run 13 48 L (.int z :: .int x :: S) h = if x = z then Run 13 51 L S h else Run 13 55 L S h := RbrN (c := cnd .ne x z = true) (off := 7) rfl rfl cnd_ne
theorem e13_51 {L : Lo} {S : List Value} {h : Hp} : Run 13 51 L S h = Run 13 52 L (.int 1 :: S) h := Rg rfl
theorem e13_52 {L : Lo} {S : List Value} {h : Hp} : Run 13 52 L S h = Run 13 56 L S h := Rg rfl
theorem e13_55 {L : Lo} {S : List Value} {h : Hp} : Run 13 55 L S h = Run 13 56 L (.int 0 :: S) h := Rg rfl
theorem e13_56 {L : Lo} {h : Hp} {x : Int32} (hx : narrow .boolean (.int x) = .int x) : Run 13 56 L [.int x] h = some (.inl (some (.int x)), h) := Rd (if_pos hx)
theorem e14_0 {L : Lo} {S : List Value} {h : Hp} {x0 : Option Value} {v : Nat} : Run 14 0 (x0 :: some (.ref v) :: L) S h = Run 14 1 (x0 :: some (.ref v) :: L) (.ref v :: S) h := Rg rfl
set_option maxRecDepth 100000 in
theorem e14_1 {L : Lo} {h : Hp} {a0 : Nat} (hO : isO h a0 7 = true) : Run 14 1 L [.ref a0] h = (Run 73 0 [some (.ref a0)] [] h).bind fun o => aft 14 1 4 L [] o := Rcv (c := 73) (As := []) (S' := []) (pc' := 4) 7 rfl hO
theorem e14_4 {L : Lo} {S : List Value} {h : Hp} {x : Int32} : Run 14 4 L (.int x :: S) h = if x = 0 then Run 14 25 L S h else Run 14 7 L S h := Rbr (c := cnd .eq x 0 = true) (off := 21) rfl rfl cnd_eq
theorem e14_7 {L : Lo} {S : List Value} {h : Hp} {x0 x1 x2 : Option Value} {v : Nat} : Run 14 7 (x0 :: x1 :: x2 :: some (.ref v) :: L) S h = Run 14 8 (x0 :: x1 :: x2 :: some (.ref v) :: L) (.ref v :: S) h := Rg rfl
set_option maxRecDepth 100000 in
theorem e14_8 {L : Lo} {h : Hp} {a0 : Nat} (hO : isO h a0 7 = true) : Run 14 8 L [.ref a0] h = (Run 73 0 [some (.ref a0)] [] h).bind fun o => aft 14 8 11 L [] o := Rcv (c := 73) (As := []) (S' := []) (pc' := 11) 7 rfl hO
theorem e14_11 {L : Lo} {S : List Value} {h : Hp} {x : Int32} : Run 14 11 L (.int x :: S) h = if x = 0 then Run 14 25 L S h else Run 14 14 L S h := Rbr (c := cnd .eq x 0 = true) (off := 14) rfl rfl cnd_eq
theorem e14_14 {L : Lo} {S : List Value} {h : Hp} {x0 : Option Value} {v : Nat} : Run 14 14 (x0 :: some (.ref v) :: L) S h = Run 14 15 (x0 :: some (.ref v) :: L) (.ref v :: S) h := Rg rfl
theorem e14_15 {L : Lo} {S : List Value} {h : Hp} {b : Nat} : Run 14 15 L (.ref b :: S) h = (gf h 7 0 b).bind fun v => Run 14 18 L (v :: S) h := Rb rfl fun _ => rfl
theorem e14_18 {L : Lo} {S : List Value} {h : Hp} {x0 x1 x2 : Option Value} {v : Nat} : Run 14 18 (x0 :: x1 :: x2 :: some (.ref v) :: L) S h = Run 14 19 (x0 :: x1 :: x2 :: some (.ref v) :: L) (.ref v :: S) h := Rg rfl
theorem e14_19 {L : Lo} {S : List Value} {h : Hp} {b : Nat} : Run 14 19 L (.ref b :: S) h = (gf h 7 0 b).bind fun v => Run 14 22 L (v :: S) h := Rb rfl fun _ => rfl
theorem e14_22 {L : Lo} {S : List Value} {h : Hp} {x z : Int32} : Run 14 22 L (.int z :: .int x :: S) h = if x = z then Run 14 25 L S h else Run 14 27 L S h := RbrN (c := cnd .ne x z = true) (off := 5) rfl rfl cnd_ne
theorem e14_25 {L : Lo} {S : List Value} {h : Hp} : Run 14 25 L S h = Run 14 26 L (.int 0 :: S) h := Rg rfl
theorem e14_26 {L : Lo} {h : Hp} {x : Int32} : Run 14 26 L [.int x] h = some (.inl (some (.int x)), h) := Rd (if_pos (c := narrow .int (.int x) = .int x) rfl)
theorem e14_27 {L : Lo} {S : List Value} {h : Hp} {v : Nat} : Run 14 27 (some (.ref v) :: L) S h = Run 14 28 (some (.ref v) :: L) (.ref v :: S) h := Rg rfl
theorem e14_28 {L : Lo} {S : List Value} {h : Hp} {b : Nat} : Run 14 28 L (.ref b :: S) h = (gf h 2 0 b).bind fun v => Run 14 31 L (v :: S) h := Rb rfl fun _ => rfl
theorem e14_31 {L : Lo} {S : List Value} {h : Hp} {x0 : Option Value} {v : Nat} : Run 14 31 (x0 :: some (.ref v) :: L) S h = Run 14 32 (x0 :: some (.ref v) :: L) (.ref v :: S) h := Rg rfl
theorem e14_32 {L : Lo} {S : List Value} {h : Hp} {b : Nat} : Run 14 32 L (.ref b :: S) h = (gf h 7 1 b).bind fun v => Run 14 35 L (v :: S) h := Rb rfl fun _ => rfl
theorem e14_35 {L : Lo} {S : List Value} {h : Hp} {x0 x1 x2 : Option Value} {v : Nat} : Run 14 35 (x0 :: x1 :: x2 :: some (.ref v) :: L) S h = Run 14 36 (x0 :: x1 :: x2 :: some (.ref v) :: L) (.ref v :: S) h := Rg rfl
theorem e14_36 {L : Lo} {S : List Value} {h : Hp} {b : Nat} : Run 14 36 L (.ref b :: S) h = (gf h 7 1 b).bind fun v => Run 14 39 L (v :: S) h := Rb rfl fun _ => rfl
set_option maxRecDepth 100000 in
theorem e14_39 {L : Lo} {h : Hp} {a2 : Int32} {a1 : Int32} {a0 : Nat} (hO : isO h a0 6 = true) : Run 14 39 L [.int a2, .int a1, .ref a0] h = (Run 54 0 [some (.ref a0), some (.int a1), some (.int a2), none, none] [] h).bind fun o => aft 14 39 42 L [] o := Rcv (c := 54) (As := [.int a1, .int a2]) (S' := []) (pc' := 42) 6 rfl hO
theorem e14_42 {L : Lo} {S : List Value} {h : Hp} {x0 x1 x2 x3 : Option Value} {y : Option Value} {v : Int32} : Run 14 42 (x0 :: x1 :: x2 :: x3 :: y :: L) (.int v :: S) h = Run 14 44 (x0 :: x1 :: x2 :: ck x3 :: some (.int v) :: L) S h := Rg rfl
theorem e14_44 {L : Lo} {S : List Value} {h : Hp} {x0 : Option Value} {v : Nat} : Run 14 44 (x0 :: some (.ref v) :: L) S h = Run 14 45 (x0 :: some (.ref v) :: L) (.ref v :: S) h := Rg rfl
theorem e14_45 {L : Lo} {S : List Value} {h : Hp} {b : Nat} : Run 14 45 L (.ref b :: S) h = (gf h 7 2 b).bind fun v => Run 14 48 L (v :: S) h := Rb rfl fun _ => rfl
theorem e14_48 {L : Lo} {S : List Value} {h : Hp} {v : Nat} : Run 14 48 (some (.ref v) :: L) S h = Run 14 49 (some (.ref v) :: L) (.ref v :: S) h := Rg rfl
theorem e14_49 {L : Lo} {S : List Value} {h : Hp} {b : Nat} : Run 14 49 L (.ref b :: S) h = (gf h 2 0 b).bind fun v => Run 14 52 L (v :: S) h := Rb rfl fun _ => rfl
theorem e14_52 {L : Lo} {S : List Value} {h : Hp} {x0 : Option Value} {v : Nat} : Run 14 52 (x0 :: some (.ref v) :: L) S h = Run 14 53 (x0 :: some (.ref v) :: L) (.ref v :: S) h := Rg rfl
theorem e14_53 {L : Lo} {S : List Value} {h : Hp} {b : Nat} : Run 14 53 L (.ref b :: S) h = (gf h 7 1 b).bind fun v => Run 14 56 L (v :: S) h := Rb rfl fun _ => rfl
theorem e14_56 {L : Lo} {S : List Value} {h : Hp} {x0 x1 x2 : Option Value} {v : Nat} : Run 14 56 (x0 :: x1 :: x2 :: some (.ref v) :: L) S h = Run 14 57 (x0 :: x1 :: x2 :: some (.ref v) :: L) (.ref v :: S) h := Rg rfl
theorem e14_57 {L : Lo} {S : List Value} {h : Hp} {b : Nat} : Run 14 57 L (.ref b :: S) h = (gf h 7 1 b).bind fun v => Run 14 60 L (v :: S) h := Rb rfl fun _ => rfl
set_option maxRecDepth 100000 in
theorem e14_60 {L : Lo} {h : Hp} {a3 : Int32} {a2 : Int32} {a1 : Nat} {a0 : Int32} (hO : isO h a1 6 = true) : Run 14 60 L [.int a3, .int a2, .ref a1, .int a0] h = (Run 55 0 [some (.ref a1), some (.int a2), some (.int a3), none, none, none] [] h).bind fun o => aft 14 60 63 L [.int a0] o := Rcv (c := 55) (As := [.int a2, .int a3]) (S' := [.int a0]) (pc' := 63) 6 rfl hO
set_option maxRecDepth 100000 in
theorem e14_63 {L : Lo} {h : Hp} {a1 : Int32} {a0 : Int32} : Run 14 63 L [.int a1, .int a0] h = (Run 11 0 [some (.int a0), some (.int a1), none, none] [] h).bind fun o => aft 14 63 66 L [] o := Rc (c := 11) (As := [.int a0, .int a1]) (S' := []) (pc' := 66) rfl
theorem e14_66 {L : Lo} {S : List Value} {h : Hp} {x0 x1 x2 x3 x4 : Option Value} {y : Option Value} {v : Int32} : Run 14 66 (x0 :: x1 :: x2 :: x3 :: x4 :: y :: L) (.int v :: S) h = Run 14 68 (x0 :: x1 :: x2 :: x3 :: ck x4 :: some (.int v) :: L) S h := Rg rfl
theorem e14_68 {L : Lo} {S : List Value} {h : Hp} {x0 x1 x2 x3 : Option Value} {v : Int32} : Run 14 68 (x0 :: x1 :: x2 :: x3 :: some (.int v) :: L) S h = Run 14 70 (x0 :: x1 :: x2 :: x3 :: some (.int v) :: L) (.int v :: S) h := Rg rfl
theorem e14_70 {L : Lo} {S : List Value} {h : Hp} : Run 14 70 L S h = Run 14 72 L (.int 6 :: S) h := Rg rfl
theorem e14_72 {L : Lo} {S : List Value} {h : Hp} {x z : Int32} : Run 14 72 L (.int z :: .int x :: S) h = if z < x then Run 14 104 L S h else Run 14 75 L S h := Rbr (c := cnd .gt x z = true) (off := 32) rfl rfl cnd_gt
theorem e14_75 {L : Lo} {S : List Value} {h : Hp} {x0 x1 x2 x3 x4 : Option Value} {v : Int32} : Run 14 75 (x0 :: x1 :: x2 :: x3 :: x4 :: some (.int v) :: L) S h = Run 14 77 (x0 :: x1 :: x2 :: x3 :: x4 :: some (.int v) :: L) (.int v :: S) h := Rg rfl
theorem e14_77 {L : Lo} {S : List Value} {h : Hp} {x0 x1 : Option Value} {v : Int32} : Run 14 77 (x0 :: x1 :: some (.int v) :: L) S h = Run 14 78 (x0 :: x1 :: some (.int v) :: L) (.int v :: S) h := Rg rfl
theorem e14_78 {L : Lo} {S : List Value} {h : Hp} {x : Int32} : Run 14 78 L (.int x :: S) h = if x = 0 then Run 14 85 L S h else Run 14 81 L S h := Rbr (c := cnd .eq x 0 = true) (off := 7) rfl rfl cnd_eq
theorem e14_81 {L : Lo} {S : List Value} {h : Hp} : Run 14 81 L S h = Run 14 82 L (.int 1 :: S) h := Rg rfl
theorem e14_82 {L : Lo} {S : List Value} {h : Hp} : Run 14 82 L S h = Run 14 86 L S h := Rg rfl
theorem e14_85 {L : Lo} {S : List Value} {h : Hp} : Run 14 85 L S h = Run 14 86 L (.int 0 :: S) h := Rg rfl
theorem e14_86 {L : Lo} {S : List Value} {h : Hp} {x z : Int32} : Run 14 86 L (.int z :: .int x :: S) h = if x = z then Run 14 89 L S h else Run 14 104 L S h := RbrN (c := cnd .ne x z = true) (off := 18) rfl rfl cnd_ne
theorem e14_89 {L : Lo} {S : List Value} {h : Hp} {v : Nat} : Run 14 89 (some (.ref v) :: L) S h = Run 14 90 (some (.ref v) :: L) (.ref v :: S) h := Rg rfl
theorem e14_90 {L : Lo} {S : List Value} {h : Hp} {x0 : Option Value} {v : Nat} : Run 14 90 (x0 :: some (.ref v) :: L) S h = Run 14 91 (x0 :: some (.ref v) :: L) (.ref v :: S) h := Rg rfl
theorem e14_91 {L : Lo} {S : List Value} {h : Hp} {b : Nat} : Run 14 91 L (.ref b :: S) h = (gf h 7 1 b).bind fun v => Run 14 94 L (v :: S) h := Rb rfl fun _ => rfl
theorem e14_94 {L : Lo} {S : List Value} {h : Hp} {x0 x1 x2 : Option Value} {v : Nat} : Run 14 94 (x0 :: x1 :: x2 :: some (.ref v) :: L) S h = Run 14 95 (x0 :: x1 :: x2 :: some (.ref v) :: L) (.ref v :: S) h := Rg rfl
theorem e14_95 {L : Lo} {S : List Value} {h : Hp} {b : Nat} : Run 14 95 L (.ref b :: S) h = (gf h 7 1 b).bind fun v => Run 14 98 L (v :: S) h := Rb rfl fun _ => rfl
set_option maxRecDepth 100000 in
theorem e14_98 {L : Lo} {h : Hp} {a2 : Int32} {a1 : Int32} {a0 : Nat} (hO : isO h a0 2 = true) : Run 14 98 L [.int a2, .int a1, .ref a0] h = (Run 12 0 [some (.ref a0), some (.int a1), some (.int a2), none, none, none, none] [] h).bind fun o => aft 14 98 101 L [] o := Rcv (c := 12) (As := [.int a1, .int a2]) (S' := []) (pc' := 101) 2 rfl hO
theorem e14_101 {L : Lo} {S : List Value} {h : Hp} {x : Int32} : Run 14 101 L (.int x :: S) h = if x = 0 then Run 14 106 L S h else Run 14 104 L S h := Rbr (c := cnd .eq x 0 = true) (off := 5) rfl rfl cnd_eq
theorem e14_104 {L : Lo} {S : List Value} {h : Hp} : Run 14 104 L S h = Run 14 105 L (.int 0 :: S) h := Rg rfl
theorem e14_105 {L : Lo} {h : Hp} {x : Int32} : Run 14 105 L [.int x] h = some (.inl (some (.int x)), h) := Rd (if_pos (c := narrow .int (.int x) = .int x) rfl)
theorem e14_106 {L : Lo} {S : List Value} {h : Hp} {x0 : Option Value} {v : Nat} : Run 14 106 (x0 :: some (.ref v) :: L) S h = Run 14 107 (x0 :: some (.ref v) :: L) (.ref v :: S) h := Rg rfl
theorem e14_107 {L : Lo} {S : List Value} {h : Hp} {x0 x1 : Option Value} {v : Int32} : Run 14 107 (x0 :: x1 :: some (.int v) :: L) S h = Run 14 108 (x0 :: x1 :: some (.int v) :: L) (.int v :: S) h := Rg rfl
set_option maxRecDepth 100000 in
theorem e14_108 {L : Lo} {h : Hp} {a1 : Int32} {a0 : Nat} (hO : isO h a0 7 = true) : Run 14 108 L [.int a1, .ref a0] h = (Run 78 0 [some (.ref a0), some (.int a1)] [] h).bind fun o => aft 14 108 111 L [] o := Rcv (c := 78) (As := [.int a1]) (S' := []) (pc' := 111) 7 rfl hO
theorem e14_111 {L : Lo} {S : List Value} {h : Hp} : Run 14 111 L S h = Run 14 113 L (.int 7 :: S) h := Rg rfl
theorem e14_113 {L : Lo} {S : List Value} {h : Hp} {x0 x1 x2 x3 : Option Value} {v : Int32} : Run 14 113 (x0 :: x1 :: x2 :: x3 :: some (.int v) :: L) S h = Run 14 115 (x0 :: x1 :: x2 :: x3 :: some (.int v) :: L) (.int v :: S) h := Rg rfl
theorem e14_115 {L : Lo} {S : List Value} {h : Hp} {x z : Int32} : Run 14 115 L (.int z :: .int x :: S) h = Run 14 116 L (.int (x - z) :: S) h := Rg rfl
theorem e14_116 {L : Lo} {S : List Value} {h : Hp} {x z : Int32} : Run 14 116 L (.int z :: .int x :: S) h = Run 14 117 L (.int (x * z) :: S) h := Rg rfl
theorem e14_117 {L : Lo} {S : List Value} {h : Hp} {x0 x1 x2 x3 x4 x5 : Option Value} {y : Option Value} {v : Int32} : Run 14 117 (x0 :: x1 :: x2 :: x3 :: x4 :: x5 :: y :: L) (.int v :: S) h = Run 14 119 (x0 :: x1 :: x2 :: x3 :: x4 :: ck x5 :: some (.int v) :: L) S h := Rg rfl
theorem e14_119 {L : Lo} {S : List Value} {h : Hp} {v : Nat} : Run 14 119 (some (.ref v) :: L) S h = Run 14 120 (some (.ref v) :: L) (.ref v :: S) h := Rg rfl
theorem e14_120 {L : Lo} {S : List Value} {h : Hp} {x0 : Option Value} {v : Nat} : Run 14 120 (x0 :: some (.ref v) :: L) S h = Run 14 121 (x0 :: some (.ref v) :: L) (.ref v :: S) h := Rg rfl
theorem e14_121 {L : Lo} {S : List Value} {h : Hp} {x0 x1 x2 : Option Value} {v : Nat} : Run 14 121 (x0 :: x1 :: x2 :: some (.ref v) :: L) S h = Run 14 122 (x0 :: x1 :: x2 :: some (.ref v) :: L) (.ref v :: S) h := Rg rfl
set_option maxRecDepth 100000 in
theorem e14_122 {L : Lo} {h : Hp} {a2 : Nat} {a1 : Nat} {a0 : Nat} (hO : isO h a0 2 = true) : Run 14 122 L [.ref a2, .ref a1, .ref a0] h = (Run 13 0 [some (.ref a0), some (.ref a1), some (.ref a2), none, none] [] h).bind fun o => aft 14 122 125 L [] o := Rcv (c := 13) (As := [.ref a1, .ref a2]) (S' := []) (pc' := 125) 2 rfl hO
theorem e14_125 {L : Lo} {S : List Value} {h : Hp} {x : Int32} : Run 14 125 L (.int x :: S) h = if x = 0 then Run 14 135 L S h else Run 14 128 L S h := Rbr (c := cnd .eq x 0 = true) (off := 10) rfl rfl cnd_eq
theorem e14_128 {L : Lo} {S : List Value} {h : Hp} : Run 14 128 L S h = Run 14 129 L (.int 2 :: S) h := Rg rfl
theorem e14_129 {L : Lo} {S : List Value} {h : Hp} {x0 x1 x2 x3 x4 x5 : Option Value} {v : Int32} : Run 14 129 (x0 :: x1 :: x2 :: x3 :: x4 :: x5 :: some (.int v) :: L) S h = Run 14 131 (x0 :: x1 :: x2 :: x3 :: x4 :: x5 :: some (.int v) :: L) (.int v :: S) h := Rg rfl
theorem e14_131 {L : Lo} {S : List Value} {h : Hp} {x z : Int32} : Run 14 131 L (.int z :: .int x :: S) h = Run 14 132 L (.int (x * z) :: S) h := Rg rfl
theorem e14_132 {L : Lo} {S : List Value} {h : Hp} : Run 14 132 L S h = Run 14 137 L S h := Rg rfl
theorem e14_135 {L : Lo} {S : List Value} {h : Hp} {x0 x1 x2 x3 x4 x5 : Option Value} {v : Int32} : Run 14 135 (x0 :: x1 :: x2 :: x3 :: x4 :: x5 :: some (.int v) :: L) S h = Run 14 137 (x0 :: x1 :: x2 :: x3 :: x4 :: x5 :: some (.int v) :: L) (.int v :: S) h := Rg rfl
theorem e14_137 {L : Lo} {h : Hp} {x : Int32} : Run 14 137 L [.int x] h = some (.inl (some (.int x)), h) := Rd (if_pos (c := narrow .int (.int x) = .int x) rfl)
theorem e15_0 {L : Lo} {S : List Value} {h : Hp} {x0 : Option Value} {v : Nat} : Run 15 0 (x0 :: some (.ref v) :: L) S h = Run 15 1 (x0 :: some (.ref v) :: L) (.ref v :: S) h := Rg rfl
theorem e15_1 {L : Lo} {S : List Value} {h : Hp} {x0 x1 : Option Value} {v : Int32} : Run 15 1 (x0 :: x1 :: some (.int v) :: L) S h = Run 15 2 (x0 :: x1 :: some (.int v) :: L) (.int v :: S) h := Rg rfl
set_option maxRecDepth 100000 in
theorem e15_2 {L : Lo} {h : Hp} {a1 : Int32} {a0 : Nat} (hO : isO h a0 7 = true) : Run 15 2 L [.int a1, .ref a0] h = (Run 79 0 [some (.ref a0), some (.int a1)] [] h).bind fun o => aft 15 2 5 L [] o := Rcv (c := 79) (As := [.int a1]) (S' := []) (pc' := 5) 7 rfl hO
theorem e15_5 {L : Lo} {S : List Value} {h : Hp} {x : Int32} : Run 15 5 L (.int x :: S) h = if 0 < x then Run 15 18 L S h else Run 15 8 L S h := Rbr (c := cnd .gt x 0 = true) (off := 13) rfl rfl cnd_gt
theorem e15_8 {L : Lo} {S : List Value} {h : Hp} {v : Nat} : Run 15 8 (some (.ref v) :: L) S h = Run 15 9 (some (.ref v) :: L) (.ref v :: S) h := Rg rfl
theorem e15_9 {L : Lo} {S : List Value} {h : Hp} {x0 : Option Value} {v : Nat} : Run 15 9 (x0 :: some (.ref v) :: L) S h = Run 15 10 (x0 :: some (.ref v) :: L) (.ref v :: S) h := Rg rfl
theorem e15_10 {L : Lo} {S : List Value} {h : Hp} {x0 x1 : Option Value} {v : Int32} : Run 15 10 (x0 :: x1 :: some (.int v) :: L) S h = Run 15 11 (x0 :: x1 :: some (.int v) :: L) (.int v :: S) h := Rg rfl
theorem e15_11 {L : Lo} {S : List Value} {h : Hp} {x0 x1 x2 : Option Value} {v : Nat} : Run 15 11 (x0 :: x1 :: x2 :: some (.ref v) :: L) S h = Run 15 12 (x0 :: x1 :: x2 :: some (.ref v) :: L) (.ref v :: S) h := Rg rfl
set_option maxRecDepth 100000 in
theorem e15_12 {L : Lo} {h : Hp} {a3 : Nat} {a2 : Int32} {a1 : Nat} {a0 : Nat} (hO : isO h a0 2 = true) : Run 15 12 L [.ref a3, .int a2, .ref a1, .ref a0] h = (Run 14 0 [some (.ref a0), some (.ref a1), some (.int a2), some (.ref a3), none, none, none] [] h).bind fun o => aft 15 12 15 L [] o := Rcv (c := 14) (As := [.ref a1, .int a2, .ref a3]) (S' := []) (pc' := 15) 2 rfl hO
theorem e15_15 {L : Lo} {S : List Value} {h : Hp} {x : Int32} : Run 15 15 L (.int x :: S) h = if 0 < x then Run 15 20 L S h else Run 15 18 L S h := Rbr (c := cnd .gt x 0 = true) (off := 5) rfl rfl cnd_gt
theorem e15_18 {L : Lo} {S : List Value} {h : Hp} : Run 15 18 L S h = Run 15 19 L (.int 0 :: S) h := Rg rfl
theorem e15_19 {L : Lo} {h : Hp} {x : Int32} (hx : narrow .boolean (.int x) = .int x) : Run 15 19 L [.int x] h = some (.inl (some (.int x)), h) := Rd (if_pos hx)
theorem e15_20 {L : Lo} {S : List Value} {h : Hp} {x0 x1 x2 x3 : Option Value} {v : Int32} : Run 15 20 (x0 :: x1 :: x2 :: x3 :: some (.int v) :: L) S h = Run 15 22 (x0 :: x1 :: x2 :: x3 :: some (.int v) :: L) (.int v :: S) h := Rg rfl
theorem e15_22 {L : Lo} {S : List Value} {h : Hp} : Run 15 22 L S h = Run 15 23 L (.int 2 :: S) h := Rg rfl
theorem e15_23 {L : Lo} {S : List Value} {h : Hp} {x z : Int32} : Run 15 23 L (.int z :: .int x :: S) h = if x = z then Run 15 26 L S h else Run 15 45 L S h := RbrN (c := cnd .ne x z = true) (off := 22) rfl rfl cnd_ne
theorem e15_26 {L : Lo} {S : List Value} {h : Hp} {v : Nat} : Run 15 26 (some (.ref v) :: L) S h = Run 15 27 (some (.ref v) :: L) (.ref v :: S) h := Rg rfl
theorem e15_27 {L : Lo} {S : List Value} {h : Hp} {b : Nat} : Run 15 27 L (.ref b :: S) h = (gf h 2 0 b).bind fun v => Run 15 30 L (v :: S) h := Rb rfl fun _ => rfl
theorem e15_30 {L : Lo} {S : List Value} {h : Hp} {x0 : Option Value} {v : Nat} : Run 15 30 (x0 :: some (.ref v) :: L) S h = Run 15 31 (x0 :: some (.ref v) :: L) (.ref v :: S) h := Rg rfl
theorem e15_31 {L : Lo} {S : List Value} {h : Hp} {b : Nat} : Run 15 31 L (.ref b :: S) h = (gf h 7 1 b).bind fun v => Run 15 34 L (v :: S) h := Rb rfl fun _ => rfl
theorem e15_34 {L : Lo} {S : List Value} {h : Hp} {x0 x1 x2 : Option Value} {v : Nat} : Run 15 34 (x0 :: x1 :: x2 :: some (.ref v) :: L) S h = Run 15 35 (x0 :: x1 :: x2 :: some (.ref v) :: L) (.ref v :: S) h := Rg rfl
theorem e15_35 {L : Lo} {S : List Value} {h : Hp} {b : Nat} : Run 15 35 L (.ref b :: S) h = (gf h 7 1 b).bind fun v => Run 15 38 L (v :: S) h := Rb rfl fun _ => rfl
set_option maxRecDepth 100000 in
theorem e15_38 {L : Lo} {h : Hp} {a2 : Int32} {a1 : Int32} {a0 : Nat} (hO : isO h a0 6 = true) : Run 15 38 L [.int a2, .int a1, .ref a0] h = (Run 54 0 [some (.ref a0), some (.int a1), some (.int a2), none, none] [] h).bind fun o => aft 15 38 41 L [] o := Rcv (c := 54) (As := [.int a1, .int a2]) (S' := []) (pc' := 41) 6 rfl hO
theorem e15_41 {L : Lo} {S : List Value} {h : Hp} : Run 15 41 L S h = Run 15 42 L (.int 2 :: S) h := Rg rfl
theorem e15_42 {L : Lo} {S : List Value} {h : Hp} {x z : Int32} : Run 15 42 L (.int z :: .int x :: S) h = if z < x then Run 15 49 L S h else Run 15 45 L S h := Rbr (c := cnd .gt x z = true) (off := 7) rfl rfl cnd_gt
theorem e15_45 {L : Lo} {S : List Value} {h : Hp} : Run 15 45 L S h = Run 15 46 L (.int 1 :: S) h := Rg rfl
theorem e15_46 {L : Lo} {S : List Value} {h : Hp} : Run 15 46 L S h = Run 15 50 L S h := Rg rfl
theorem e15_49 {L : Lo} {S : List Value} {h : Hp} : Run 15 49 L S h = Run 15 50 L (.int 0 :: S) h := Rg rfl
theorem e15_50 {L : Lo} {h : Hp} {x : Int32} (hx : narrow .boolean (.int x) = .int x) : Run 15 50 L [.int x] h = some (.inl (some (.int x)), h) := Rd (if_pos hx)
theorem e16_0 {L : Lo} {S : List Value} {h : Hp} {v : Nat} : Run 16 0 (some (.ref v) :: L) S h = Run 16 1 (some (.ref v) :: L) (.ref v :: S) h := Rg rfl
theorem e16_1 {L : Lo} {S : List Value} {h : Hp} {x0 : Option Value} {v : Nat} : Run 16 1 (x0 :: some (.ref v) :: L) S h = Run 16 2 (x0 :: some (.ref v) :: L) (.ref v :: S) h := Rg rfl
theorem e16_2 {L : Lo} {S : List Value} {h : Hp} {x0 x1 : Option Value} {v : Int32} : Run 16 2 (x0 :: x1 :: some (.int v) :: L) S h = Run 16 3 (x0 :: x1 :: some (.int v) :: L) (.int v :: S) h := Rg rfl
theorem e16_3 {L : Lo} {S : List Value} {h : Hp} {x0 x1 x2 : Option Value} {v : Nat} : Run 16 3 (x0 :: x1 :: x2 :: some (.ref v) :: L) S h = Run 16 4 (x0 :: x1 :: x2 :: some (.ref v) :: L) (.ref v :: S) h := Rg rfl
set_option maxRecDepth 100000 in
theorem e16_4 {L : Lo} {h : Hp} {a3 : Nat} {a2 : Int32} {a1 : Nat} {a0 : Nat} (hO : isO h a0 2 = true) : Run 16 4 L [.ref a3, .int a2, .ref a1, .ref a0] h = (Run 14 0 [some (.ref a0), some (.ref a1), some (.int a2), some (.ref a3), none, none, none] [] h).bind fun o => aft 16 4 7 L [] o := Rcv (c := 14) (As := [.ref a1, .int a2, .ref a3]) (S' := []) (pc' := 7) 2 rfl hO
theorem e16_7 {L : Lo} {S : List Value} {h : Hp} {x0 x1 x2 x3 x4 : Option Value} {y : Option Value} {v : Int32} : Run 16 7 (x0 :: x1 :: x2 :: x3 :: x4 :: y :: L) (.int v :: S) h = Run 16 9 (x0 :: x1 :: x2 :: x3 :: ck x4 :: some (.int v) :: L) S h := Rg rfl
theorem e16_9 {L : Lo} {S : List Value} {h : Hp} {x0 : Option Value} {v : Nat} : Run 16 9 (x0 :: some (.ref v) :: L) S h = Run 16 10 (x0 :: some (.ref v) :: L) (.ref v :: S) h := Rg rfl
theorem e16_10 {L : Lo} {S : List Value} {h : Hp} {x0 x1 : Option Value} {v : Int32} : Run 16 10 (x0 :: x1 :: some (.int v) :: L) S h = Run 16 11 (x0 :: x1 :: some (.int v) :: L) (.int v :: S) h := Rg rfl
set_option maxRecDepth 100000 in
theorem e16_11 {L : Lo} {h : Hp} {a1 : Int32} {a0 : Nat} (hO : isO h a0 7 = true) : Run 16 11 L [.int a1, .ref a0] h = (Run 80 0 [some (.ref a0), some (.int a1), none] [] h).bind fun o => aft 16 11 14 L [] o := Rcv (c := 80) (As := [.int a1]) (S' := []) (pc' := 14) 7 rfl hO
theorem e16_14 {L : Lo} {S : List Value} {h : Hp} {x0 x1 x2 x3 : Option Value} {v : Int32} : Run 16 14 (x0 :: x1 :: x2 :: x3 :: some (.int v) :: L) S h = Run 16 16 (x0 :: x1 :: x2 :: x3 :: some (.int v) :: L) (.int v :: S) h := Rg rfl
theorem e16_16 {L : Lo} {S : List Value} {h : Hp} {x : Int32} : Run 16 16 L (.int x :: S) h = if x = 0 then Run 16 19 L S h else Run 16 28 L S h := RbrN (c := cnd .ne x 0 = true) (off := 12) rfl rfl cnd_ne
theorem e16_19 {L : Lo} {S : List Value} {h : Hp} {v : Nat} : Run 16 19 (some (.ref v) :: L) S h = Run 16 20 (some (.ref v) :: L) (.ref v :: S) h := Rg rfl
theorem e16_20 {L : Lo} {S : List Value} {h : Hp} {x0 : Option Value} {v : Nat} : Run 16 20 (x0 :: some (.ref v) :: L) S h = Run 16 21 (x0 :: some (.ref v) :: L) (.ref v :: S) h := Rg rfl
theorem e16_21 {L : Lo} {S : List Value} {h : Hp} {x0 x1 x2 : Option Value} {v : Nat} : Run 16 21 (x0 :: x1 :: x2 :: some (.ref v) :: L) S h = Run 16 22 (x0 :: x1 :: x2 :: some (.ref v) :: L) (.ref v :: S) h := Rg rfl
theorem e16_22 {L : Lo} {S : List Value} {h : Hp} {x0 x1 x2 x3 x4 : Option Value} {v : Int32} : Run 16 22 (x0 :: x1 :: x2 :: x3 :: x4 :: some (.int v) :: L) S h = Run 16 24 (x0 :: x1 :: x2 :: x3 :: x4 :: some (.int v) :: L) (.int v :: S) h := Rg rfl
set_option maxRecDepth 100000 in
theorem e16_24 {L : Lo} {h : Hp} {a3 : Int32} {a2 : Nat} {a1 : Nat} {a0 : Nat} (hO : isO h a0 2 = true) : Run 16 24 L [.int a3, .ref a2, .ref a1, .ref a0] h = (Run 17 0 [some (.ref a0), some (.ref a1), some (.ref a2), some (.int a3), none, none] [] h).bind fun o => aft 16 24 27 L [] o := Rcv (c := 17) (As := [.ref a1, .ref a2, .int a3]) (S' := []) (pc' := 27) 2 rfl hO
theorem e16_27 {L : Lo} {h : Hp} {x : Int32} : Run 16 27 L [.int x] h = some (.inl (some (.int x)), h) := Rd (if_pos (c := narrow .int (.int x) = .int x) rfl)
theorem e16_28 {L : Lo} {S : List Value} {h : Hp} {x0 x1 x2 x3 : Option Value} {v : Int32} : Run 16 28 (x0 :: x1 :: x2 :: x3 :: some (.int v) :: L) S h = Run 16 30 (x0 :: x1 :: x2 :: x3 :: some (.int v) :: L) (.int v :: S) h := Rg rfl
theorem e16_30 {L : Lo} {S : List Value} {h : Hp} : Run 16 30 L S h = Run 16 31 L (.int 1 :: S) h := Rg rfl
theorem e16_31 {L : Lo} {S : List Value} {h : Hp} {x z : Int32} : Run 16 31 L (.int z :: .int x :: S) h = if x = z then Run 16 34 L S h else Run 16 62 L S h := RbrN (c := cnd .ne x z = true) (off := 31) rfl rfl cnd_ne
theorem e16_34 {L : Lo} {S : List Value} {h : Hp} {x0 x1 x2 : Option Value} {v : Nat} : Run 16 34 (x0 :: x1 :: x2 :: some (.ref v) :: L) S h = Run 16 35 (x0 :: x1 :: x2 :: some (.ref v) :: L) (.ref v :: S) h := Rg rfl
theorem e16_35 {L : Lo} {S : List Value} {h : Hp} {b : Nat} : Run 16 35 L (.ref b :: S) h = (gf h 7 4 b).bind fun v => Run 16 38 L (v :: S) h := Rb rfl fun _ => rfl
theorem e16_38 {L : Lo} {S : List Value} {h : Hp} {x0 x1 x2 x3 x4 : Option Value} {v : Int32} : Run 16 38 (x0 :: x1 :: x2 :: x3 :: x4 :: some (.int v) :: L) S h = Run 16 40 (x0 :: x1 :: x2 :: x3 :: x4 :: some (.int v) :: L) (.int v :: S) h := Rg rfl
theorem e16_40 {L : Lo} {S : List Value} {h : Hp} : Run 16 40 L S h = Run 16 42 L (.int 6 :: S) h := Rg rfl
theorem e16_42 {L : Lo} {S : List Value} {h : Hp} {x z : Int32} (hz : ¬ z = 0) : Run 16 42 L (.int z :: .int x :: S) h = Run 16 43 L (.int (x / z) :: S) h := Rg (if_neg hz)
set_option maxRecDepth 100000 in
theorem e16_43 {L : Lo} {h : Hp} {a1 : Int32} {a0 : Int32} : Run 16 43 L [.int a1, .int a0] h = (Run 117 0 [some (.int a0), some (.int a1)] [] h).bind fun o => aft 16 43 46 L [] o := Rc (c := 117) (As := [.int a0, .int a1]) (S' := []) (pc' := 46) rfl
theorem e16_46 {L : Lo} {S : List Value} {h : Hp} {x0 x1 x2 x3 x4 x5 : Option Value} {y : Option Value} {v : Int32} : Run 16 46 (x0 :: x1 :: x2 :: x3 :: x4 :: x5 :: y :: L) (.int v :: S) h = Run 16 48 (x0 :: x1 :: x2 :: x3 :: x4 :: ck x5 :: some (.int v) :: L) S h := Rg rfl
theorem e16_48 {L : Lo} {S : List Value} {h : Hp} {x0 x1 x2 : Option Value} {v : Nat} : Run 16 48 (x0 :: x1 :: x2 :: some (.ref v) :: L) S h = Run 16 49 (x0 :: x1 :: x2 :: some (.ref v) :: L) (.ref v :: S) h := Rg rfl
theorem e16_49 {L : Lo} {S : List Value} {h : Hp} {v : Nat} : Run 16 49 L (.ref v :: S) h = Run 16 50 L (.ref v :: .ref v :: S) h := Rg rfl
theorem e16_50 {L : Lo} {S : List Value} {h : Hp} {b : Nat} : Run 16 50 L (.ref b :: S) h = (gf h 7 4 b).bind fun v => Run 16 53 L (v :: S) h := Rb rfl fun _ => rfl
theorem e16_53 {L : Lo} {S : List Value} {h : Hp} {x0 x1 x2 x3 x4 x5 : Option Value} {v : Int32} : Run 16 53 (x0 :: x1 :: x2 :: x3 :: x4 :: x5 :: some (.int v) :: L) S h = Run 16 55 (x0 :: x1 :: x2 :: x3 :: x4 :: x5 :: some (.int v) :: L) (.int v :: S) h := Rg rfl
theorem e16_55 {L : Lo} {S : List Value} {h : Hp} {x z : Int32} : Run 16 55 L (.int z :: .int x :: S) h = Run 16 56 L (.int (x - z) :: S) h := Rg rfl
theorem e16_56 {L : Lo} {S : List Value} {h : Hp} {b : Nat} {v : Value} : Run 16 56 L (v :: .ref b :: S) h = (pf h 7 4 b v).bind fun h1 => Run 16 59 L S h1 := Rb rfl fun _ => rfl
theorem e16_59 {L : Lo} {S : List Value} {h : Hp} {x0 x1 x2 x3 x4 x5 : Option Value} {v : Int32} : Run 16 59 (x0 :: x1 :: x2 :: x3 :: x4 :: x5 :: some (.int v) :: L) S h = Run 16 61 (x0 :: x1 :: x2 :: x3 :: x4 :: x5 :: some (.int v) :: L) (.int v :: S) h := Rg rfl
theorem e16_61 {L : Lo} {h : Hp} {x : Int32} : Run 16 61 L [.int x] h = some (.inl (some (.int x)), h) := Rd (if_pos (c := narrow .int (.int x) = .int x) rfl)
theorem e16_62 {L : Lo} {S : List Value} {h : Hp} : Run 16 62 L S h = Run 16 63 L (.int 0 :: S) h := Rg rfl
theorem e16_63 {L : Lo} {S : List Value} {h : Hp} {x0 x1 x2 : Option Value} {v : Nat} : Run 16 63 (x0 :: x1 :: x2 :: some (.ref v) :: L) S h = Run 16 64 (x0 :: x1 :: x2 :: some (.ref v) :: L) (.ref v :: S) h := Rg rfl
theorem e16_64 {L : Lo} {S : List Value} {h : Hp} {b : Nat} : Run 16 64 L (.ref b :: S) h = (gf h 7 7 b).bind fun v => Run 16 67 L (v :: S) h := Rb rfl fun _ => rfl
theorem e16_67 {L : Lo} {S : List Value} {h : Hp} : Run 16 67 L S h = Run 16 68 L (.int 1 :: S) h := Rg rfl
theorem e16_68 {L : Lo} {S : List Value} {h : Hp} {x z : Int32} : Run 16 68 L (.int z :: .int x :: S) h = Run 16 69 L (.int (x - z) :: S) h := Rg rfl
theorem e16_69 {L : Lo} {S : List Value} {h : Hp} {x0 x1 x2 x3 x4 : Option Value} {v : Int32} : Run 16 69 (x0 :: x1 :: x2 :: x3 :: x4 :: some (.int v) :: L) S h = Run 16 71 (x0 :: x1 :: x2 :: x3 :: x4 :: some (.int v) :: L) (.int v :: S) h := Rg rfl
theorem e16_71 {L : Lo} {S : List Value} {h : Hp} : Run 16 71 L S h = Run 16 72 L (.int 5 :: S) h := Rg rfl
theorem e16_72 {L : Lo} {S : List Value} {h : Hp} {x z : Int32} (hz : ¬ z = 0) : Run 16 72 L (.int z :: .int x :: S) h = Run 16 73 L (.int (x / z) :: S) h := Rg (if_neg hz)
set_option maxRecDepth 100000 in
theorem e16_73 {L : Lo} {h : Hp} {a2 : Int32} {a1 : Int32} {a0 : Int32} : Run 16 73 L [.int a2, .int a1, .int a0] h = (Run 117 0 [some (.int a1), some (.int a2)] [] h).bind fun o => aft 16 73 76 L [.int a0] o := Rc (c := 117) (As := [.int a1, .int a2]) (S' := [.int a0]) (pc' := 76) rfl
set_option maxRecDepth 100000 in
theorem e16_76 {L : Lo} {h : Hp} {a1 : Int32} {a0 : Int32} : Run 16 76 L [.int a1, .int a0] h = (Run 116 0 [some (.int a0), some (.int a1)] [] h).bind fun o => aft 16 76 79 L [] o := Rc (c := 116) (As := [.int a0, .int a1]) (S' := []) (pc' := 79) rfl
theorem e16_79 {L : Lo} {S : List Value} {h : Hp} {x0 x1 x2 x3 x4 x5 : Option Value} {y : Option Value} {v : Int32} : Run 16 79 (x0 :: x1 :: x2 :: x3 :: x4 :: x5 :: y :: L) (.int v :: S) h = Run 16 81 (x0 :: x1 :: x2 :: x3 :: x4 :: ck x5 :: some (.int v) :: L) S h := Rg rfl
theorem e16_81 {L : Lo} {S : List Value} {h : Hp} {x0 x1 x2 : Option Value} {v : Nat} : Run 16 81 (x0 :: x1 :: x2 :: some (.ref v) :: L) S h = Run 16 82 (x0 :: x1 :: x2 :: some (.ref v) :: L) (.ref v :: S) h := Rg rfl
theorem e16_82 {L : Lo} {S : List Value} {h : Hp} {v : Nat} : Run 16 82 L (.ref v :: S) h = Run 16 83 L (.ref v :: .ref v :: S) h := Rg rfl
theorem e16_83 {L : Lo} {S : List Value} {h : Hp} {b : Nat} : Run 16 83 L (.ref b :: S) h = (gf h 7 7 b).bind fun v => Run 16 86 L (v :: S) h := Rb rfl fun _ => rfl
theorem e16_86 {L : Lo} {S : List Value} {h : Hp} {x0 x1 x2 x3 x4 x5 : Option Value} {v : Int32} : Run 16 86 (x0 :: x1 :: x2 :: x3 :: x4 :: x5 :: some (.int v) :: L) S h = Run 16 88 (x0 :: x1 :: x2 :: x3 :: x4 :: x5 :: some (.int v) :: L) (.int v :: S) h := Rg rfl
theorem e16_88 {L : Lo} {S : List Value} {h : Hp} {x z : Int32} : Run 16 88 L (.int z :: .int x :: S) h = Run 16 89 L (.int (x - z) :: S) h := Rg rfl
theorem e16_89 {L : Lo} {S : List Value} {h : Hp} {b : Nat} {v : Value} : Run 16 89 L (v :: .ref b :: S) h = (pf h 7 7 b v).bind fun h1 => Run 16 92 L S h1 := Rb rfl fun _ => rfl
theorem e16_92 {L : Lo} {S : List Value} {h : Hp} {x0 x1 x2 x3 x4 x5 : Option Value} {v : Int32} : Run 16 92 (x0 :: x1 :: x2 :: x3 :: x4 :: x5 :: some (.int v) :: L) S h = Run 16 94 (x0 :: x1 :: x2 :: x3 :: x4 :: x5 :: some (.int v) :: L) (.int v :: S) h := Rg rfl
theorem e16_94 {L : Lo} {h : Hp} {x : Int32} : Run 16 94 L [.int x] h = some (.inl (some (.int x)), h) := Rd (if_pos (c := narrow .int (.int x) = .int x) rfl)
theorem e17_0 {L : Lo} {S : List Value} {h : Hp} {x0 x1 : Option Value} {v : Nat} : Run 17 0 (x0 :: x1 :: some (.ref v) :: L) S h = Run 17 1 (x0 :: x1 :: some (.ref v) :: L) (.ref v :: S) h := Rg rfl
theorem e17_1 {L : Lo} {S : List Value} {h : Hp} {b : Nat} : Run 17 1 L (.ref b :: S) h = (gf h 7 3 b).bind fun v => Run 17 4 L (v :: S) h := Rb rfl fun _ => rfl
theorem e17_4 {L : Lo} {S : List Value} {h : Hp} {x0 x1 x2 : Option Value} {v : Int32} : Run 17 4 (x0 :: x1 :: x2 :: some (.int v) :: L) S h = Run 17 5 (x0 :: x1 :: x2 :: some (.int v) :: L) (.int v :: S) h := Rg rfl
theorem e17_5 {L : Lo} {S : List Value} {h : Hp} : Run 17 5 L S h = Run 17 6 L (.int 4 :: S) h := Rg rfl
theorem e17_6 {L : Lo} {S : List Value} {h : Hp} {x z : Int32} (hz : ¬ z = 0) : Run 17 6 L (.int z :: .int x :: S) h = Run 17 7 L (.int (x / z) :: S) h := Rg (if_neg hz)
set_option maxRecDepth 100000 in
theorem e17_7 {L : Lo} {h : Hp} {a1 : Int32} {a0 : Int32} : Run 17 7 L [.int a1, .int a0] h = (Run 117 0 [some (.int a0), some (.int a1)] [] h).bind fun o => aft 17 7 10 L [] o := Rc (c := 117) (As := [.int a0, .int a1]) (S' := []) (pc' := 10) rfl
theorem e17_10 {L : Lo} {S : List Value} {h : Hp} {x0 x1 x2 x3 : Option Value} {y : Option Value} {v : Int32} : Run 17 10 (x0 :: x1 :: x2 :: x3 :: y :: L) (.int v :: S) h = Run 17 12 (x0 :: x1 :: x2 :: ck x3 :: some (.int v) :: L) S h := Rg rfl
theorem e17_12 {L : Lo} {S : List Value} {h : Hp} {x0 x1 : Option Value} {v : Nat} : Run 17 12 (x0 :: x1 :: some (.ref v) :: L) S h = Run 17 13 (x0 :: x1 :: some (.ref v) :: L) (.ref v :: S) h := Rg rfl
theorem e17_13 {L : Lo} {S : List Value} {h : Hp} {b : Nat} : Run 17 13 L (.ref b :: S) h = (gf h 7 2 b).bind fun v => Run 17 16 L (v :: S) h := Rb rfl fun _ => rfl
theorem e17_16 {L : Lo} {S : List Value} {h : Hp} {v : Nat} : Run 17 16 (some (.ref v) :: L) S h = Run 17 17 (some (.ref v) :: L) (.ref v :: S) h := Rg rfl
theorem e17_17 {L : Lo} {S : List Value} {h : Hp} {b : Nat} : Run 17 17 L (.ref b :: S) h = (gf h 2 0 b).bind fun v => Run 17 20 L (v :: S) h := Rb rfl fun _ => rfl
theorem e17_20 {L : Lo} {S : List Value} {h : Hp} {x0 x1 : Option Value} {v : Nat} : Run 17 20 (x0 :: x1 :: some (.ref v) :: L) S h = Run 17 21 (x0 :: x1 :: some (.ref v) :: L) (.ref v :: S) h := Rg rfl
theorem e17_21 {L : Lo} {S : List Value} {h : Hp} {b : Nat} : Run 17 21 L (.ref b :: S) h = (gf h 7 1 b).bind fun v => Run 17 24 L (v :: S) h := Rb rfl fun _ => rfl
theorem e17_24 {L : Lo} {S : List Value} {h : Hp} {x0 : Option Value} {v : Nat} : Run 17 24 (x0 :: some (.ref v) :: L) S h = Run 17 25 (x0 :: some (.ref v) :: L) (.ref v :: S) h := Rg rfl
theorem e17_25 {L : Lo} {S : List Value} {h : Hp} {b : Nat} : Run 17 25 L (.ref b :: S) h = (gf h 7 1 b).bind fun v => Run 17 28 L (v :: S) h := Rb rfl fun _ => rfl
set_option maxRecDepth 100000 in
theorem e17_28 {L : Lo} {h : Hp} {a3 : Int32} {a2 : Int32} {a1 : Nat} {a0 : Int32} (hO : isO h a1 6 = true) : Run 17 28 L [.int a3, .int a2, .ref a1, .int a0] h = (Run 55 0 [some (.ref a1), some (.int a2), some (.int a3), none, none, none] [] h).bind fun o => aft 17 28 31 L [.int a0] o := Rcv (c := 55) (As := [.int a2, .int a3]) (S' := [.int a0]) (pc' := 31) 6 rfl hO
set_option maxRecDepth 100000 in
theorem e17_31 {L : Lo} {h : Hp} {a1 : Int32} {a0 : Int32} : Run 17 31 L [.int a1, .int a0] h = (Run 11 0 [some (.int a0), some (.int a1), none, none] [] h).bind fun o => aft 17 31 34 L [] o := Rc (c := 11) (As := [.int a0, .int a1]) (S' := []) (pc' := 34) rfl
theorem e17_34 {L : Lo} {S : List Value} {h : Hp} {x0 x1 x2 x3 x4 : Option Value} {y : Option Value} {v : Int32} : Run 17 34 (x0 :: x1 :: x2 :: x3 :: x4 :: y :: L) (.int v :: S) h = Run 17 36 (x0 :: x1 :: x2 :: x3 :: ck x4 :: some (.int v) :: L) S h := Rg rfl
theorem e17_36 {L : Lo} {S : List Value} {h : Hp} {x0 x1 x2 x3 x4 : Option Value} {v : Int32} : Run 17 36 (x0 :: x1 :: x2 :: x3 :: x4 :: some (.int v) :: L) S h = Run 17 38 (x0 :: x1 :: x2 :: x3 :: x4 :: some (.int v) :: L) (.int v :: S) h := Rg rfl
theorem e17_38 {L : Lo} {S : List Value} {h : Hp} {x : Int32} : Run 17 38 L (.int x :: S) h = if x = 0 then Run 17 41 L S h else Run 17 61 L S h := RbrN (c := cnd .ne x 0 = true) (off := 23) rfl rfl cnd_ne
theorem e17_41 {L : Lo} {S : List Value} {h : Hp} {x0 x1 : Option Value} {v : Nat} : Run 17 41 (x0 :: x1 :: some (.ref v) :: L) S h = Run 17 42 (x0 :: x1 :: some (.ref v) :: L) (.ref v :: S) h := Rg rfl
theorem e17_42 {L : Lo} {S : List Value} {h : Hp} : Run 17 42 L S h = Run 17 43 L (.int 0 :: S) h := Rg rfl
theorem e17_43 {L : Lo} {S : List Value} {h : Hp} {x0 x1 : Option Value} {v : Nat} : Run 17 43 (x0 :: x1 :: some (.ref v) :: L) S h = Run 17 44 (x0 :: x1 :: some (.ref v) :: L) (.ref v :: S) h := Rg rfl
theorem e17_44 {L : Lo} {S : List Value} {h : Hp} {b : Nat} : Run 17 44 L (.ref b :: S) h = (gf h 7 5 b).bind fun v => Run 17 47 L (v :: S) h := Rb rfl fun _ => rfl
theorem e17_47 {L : Lo} {S : List Value} {h : Hp} {x0 x1 x2 : Option Value} {v : Int32} : Run 17 47 (x0 :: x1 :: x2 :: some (.int v) :: L) S h = Run 17 48 (x0 :: x1 :: x2 :: some (.int v) :: L) (.int v :: S) h := Rg rfl
theorem e17_48 {L : Lo} {S : List Value} {h : Hp} : Run 17 48 L S h = Run 17 50 L (.int 12 :: S) h := Rg rfl
theorem e17_50 {L : Lo} {S : List Value} {h : Hp} {x z : Int32} (hz : ¬ z = 0) : Run 17 50 L (.int z :: .int x :: S) h = Run 17 51 L (.int (x / z) :: S) h := Rg (if_neg hz)
theorem e17_51 {L : Lo} {S : List Value} {h : Hp} {x z : Int32} : Run 17 51 L (.int z :: .int x :: S) h = Run 17 52 L (.int (x - z) :: S) h := Rg rfl
set_option maxRecDepth 100000 in
theorem e17_52 {L : Lo} {h : Hp} {a2 : Int32} {a1 : Int32} {a0 : Nat} : Run 17 52 L [.int a2, .int a1, .ref a0] h = (Run 116 0 [some (.int a1), some (.int a2)] [] h).bind fun o => aft 17 52 55 L [.ref a0] o := Rc (c := 116) (As := [.int a1, .int a2]) (S' := [.ref a0]) (pc' := 55) rfl
theorem e17_55 {L : Lo} {S : List Value} {h : Hp} {b : Nat} {v : Value} : Run 17 55 L (v :: .ref b :: S) h = (pf h 7 5 b v).bind fun h1 => Run 17 58 L S h1 := Rb rfl fun _ => rfl
theorem e17_58 {L : Lo} {S : List Value} {h : Hp} : Run 17 58 L S h = Run 17 84 L S h := Rg rfl
theorem e17_61 {L : Lo} {S : List Value} {h : Hp} {x0 x1 x2 x3 x4 : Option Value} {v : Int32} : Run 17 61 (x0 :: x1 :: x2 :: x3 :: x4 :: some (.int v) :: L) S h = Run 17 63 (x0 :: x1 :: x2 :: x3 :: x4 :: some (.int v) :: L) (.int v :: S) h := Rg rfl
theorem e17_63 {L : Lo} {S : List Value} {h : Hp} : Run 17 63 L S h = Run 17 64 L (.int 1 :: S) h := Rg rfl
theorem e17_64 {L : Lo} {S : List Value} {h : Hp} {x z : Int32} : Run 17 64 L (.int z :: .int x :: S) h = if x = z then Run 17 67 L S h else Run 17 84 L S h := RbrN (c := cnd .ne x z = true) (off := 20) rfl rfl cnd_ne
theorem e17_67 {L : Lo} {S : List Value} {h : Hp} {x0 x1 : Option Value} {v : Nat} : Run 17 67 (x0 :: x1 :: some (.ref v) :: L) S h = Run 17 68 (x0 :: x1 :: some (.ref v) :: L) (.ref v :: S) h := Rg rfl
theorem e17_68 {L : Lo} {S : List Value} {h : Hp} : Run 17 68 L S h = Run 17 69 L (.int 0 :: S) h := Rg rfl
theorem e17_69 {L : Lo} {S : List Value} {h : Hp} {x0 x1 : Option Value} {v : Nat} : Run 17 69 (x0 :: x1 :: some (.ref v) :: L) S h = Run 17 70 (x0 :: x1 :: some (.ref v) :: L) (.ref v :: S) h := Rg rfl
theorem e17_70 {L : Lo} {S : List Value} {h : Hp} {b : Nat} : Run 17 70 L (.ref b :: S) h = (gf h 7 6 b).bind fun v => Run 17 73 L (v :: S) h := Rb rfl fun _ => rfl
theorem e17_73 {L : Lo} {S : List Value} {h : Hp} {x0 x1 x2 : Option Value} {v : Int32} : Run 17 73 (x0 :: x1 :: x2 :: some (.int v) :: L) S h = Run 17 74 (x0 :: x1 :: x2 :: some (.int v) :: L) (.int v :: S) h := Rg rfl
theorem e17_74 {L : Lo} {S : List Value} {h : Hp} : Run 17 74 L S h = Run 17 76 L (.int 12 :: S) h := Rg rfl
theorem e17_76 {L : Lo} {S : List Value} {h : Hp} {x z : Int32} (hz : ¬ z = 0) : Run 17 76 L (.int z :: .int x :: S) h = Run 17 77 L (.int (x / z) :: S) h := Rg (if_neg hz)
theorem e17_77 {L : Lo} {S : List Value} {h : Hp} {x z : Int32} : Run 17 77 L (.int z :: .int x :: S) h = Run 17 78 L (.int (x - z) :: S) h := Rg rfl
set_option maxRecDepth 100000 in
theorem e17_78 {L : Lo} {h : Hp} {a2 : Int32} {a1 : Int32} {a0 : Nat} : Run 17 78 L [.int a2, .int a1, .ref a0] h = (Run 116 0 [some (.int a1), some (.int a2)] [] h).bind fun o => aft 17 78 81 L [.ref a0] o := Rc (c := 116) (As := [.int a1, .int a2]) (S' := [.ref a0]) (pc' := 81) rfl
theorem e17_81 {L : Lo} {S : List Value} {h : Hp} {b : Nat} {v : Value} : Run 17 81 L (v :: .ref b :: S) h = (pf h 7 6 b v).bind fun h1 => Run 17 84 L S h1 := Rb rfl fun _ => rfl
theorem e17_84 {L : Lo} {S : List Value} {h : Hp} {x0 x1 : Option Value} {v : Nat} : Run 17 84 (x0 :: x1 :: some (.ref v) :: L) S h = Run 17 85 (x0 :: x1 :: some (.ref v) :: L) (.ref v :: S) h := Rg rfl
theorem e17_85 {L : Lo} {S : List Value} {h : Hp} {v : Nat} : Run 17 85 L (.ref v :: S) h = Run 17 86 L (.ref v :: .ref v :: S) h := Rg rfl
theorem e17_86 {L : Lo} {S : List Value} {h : Hp} {b : Nat} : Run 17 86 L (.ref b :: S) h = (gf h 7 3 b).bind fun v => Run 17 89 L (v :: S) h := Rb rfl fun _ => rfl
theorem e17_89 {L : Lo} {S : List Value} {h : Hp} {x0 x1 x2 x3 : Option Value} {v : Int32} : Run 17 89 (x0 :: x1 :: x2 :: x3 :: some (.int v) :: L) S h = Run 17 91 (x0 :: x1 :: x2 :: x3 :: some (.int v) :: L) (.int v :: S) h := Rg rfl
theorem e17_91 {L : Lo} {S : List Value} {h : Hp} {x z : Int32} : Run 17 91 L (.int z :: .int x :: S) h = Run 17 92 L (.int (x - z) :: S) h := Rg rfl
theorem e17_92 {L : Lo} {S : List Value} {h : Hp} {b : Nat} {v : Value} : Run 17 92 L (v :: .ref b :: S) h = (pf h 7 3 b v).bind fun h1 => Run 17 95 L S h1 := Rb rfl fun _ => rfl
theorem e17_95 {L : Lo} {S : List Value} {h : Hp} {x0 x1 : Option Value} {v : Nat} : Run 17 95 (x0 :: x1 :: some (.ref v) :: L) S h = Run 17 96 (x0 :: x1 :: some (.ref v) :: L) (.ref v :: S) h := Rg rfl
set_option maxRecDepth 100000 in
theorem e17_96 {L : Lo} {h : Hp} {a0 : Nat} (hO : isO h a0 7 = true) : Run 17 96 L [.ref a0] h = (Run 73 0 [some (.ref a0)] [] h).bind fun o => aft 17 96 99 L [] o := Rcv (c := 73) (As := []) (S' := []) (pc' := 99) 7 rfl hO
theorem e17_99 {L : Lo} {S : List Value} {h : Hp} {x : Int32} : Run 17 99 L (.int x :: S) h = if x = 0 then Run 17 102 L S h else Run 17 110 L S h := RbrN (c := cnd .ne x 0 = true) (off := 11) rfl rfl cnd_ne
theorem e17_102 {L : Lo} {S : List Value} {h : Hp} {v : Nat} : Run 17 102 (some (.ref v) :: L) S h = Run 17 103 (some (.ref v) :: L) (.ref v :: S) h := Rg rfl
theorem e17_103 {L : Lo} {S : List Value} {h : Hp} {b : Nat} : Run 17 103 L (.ref b :: S) h = (gf h 2 0 b).bind fun v => Run 17 106 L (v :: S) h := Rb rfl fun _ => rfl
theorem e17_106 {L : Lo} {S : List Value} {h : Hp} {x0 x1 : Option Value} {v : Nat} : Run 17 106 (x0 :: x1 :: some (.ref v) :: L) S h = Run 17 107 (x0 :: x1 :: some (.ref v) :: L) (.ref v :: S) h := Rg rfl
set_option maxRecDepth 100000 in
theorem e17_107 {L : Lo} {h : Hp} {a1 : Nat} {a0 : Nat} (hO : isO h a0 6 = true) : Run 17 107 L [.ref a1, .ref a0] h = (Run 62 0 [some (.ref a0), some (.ref a1)] [] h).bind fun o => aft 17 107 110 L [] o := Rcv (c := 62) (As := [.ref a1]) (S' := []) (pc' := 110) 6 rfl hO
theorem e17_110 {L : Lo} {S : List Value} {h : Hp} {x0 x1 x2 x3 : Option Value} {v : Int32} : Run 17 110 (x0 :: x1 :: x2 :: x3 :: some (.int v) :: L) S h = Run 17 112 (x0 :: x1 :: x2 :: x3 :: some (.int v) :: L) (.int v :: S) h := Rg rfl
theorem e17_112 {L : Lo} {h : Hp} {x : Int32} : Run 17 112 L [.int x] h = some (.inl (some (.int x)), h) := Rd (if_pos (c := narrow .int (.int x) = .int x) rfl)
theorem e18_0 {L : Lo} {S : List Value} {h : Hp} : Run 18 0 L S h = Run 18 1 L (.int (-1) :: S) h := Rg rfl
theorem e18_1 {L : Lo} {S : List Value} {h : Hp} {x0 x1 : Option Value} {y : Option Value} {v : Int32} : Run 18 1 (x0 :: x1 :: y :: L) (.int v :: S) h = Run 18 2 (x0 :: ck x1 :: some (.int v) :: L) S h := Rg rfl
theorem e18_2 {L : Lo} {S : List Value} {h : Hp} : Run 18 2 L S h = Run 18 3 L (.int 0 :: S) h := Rg rfl
theorem e18_3 {L : Lo} {S : List Value} {h : Hp} {x0 x1 x2 : Option Value} {y : Option Value} {v : Int32} : Run 18 3 (x0 :: x1 :: x2 :: y :: L) (.int v :: S) h = Run 18 4 (x0 :: x1 :: ck x2 :: some (.int v) :: L) S h := Rg rfl
theorem e18_4 {L : Lo} {S : List Value} {h : Hp} : Run 18 4 L S h = Run 18 5 L (.int 0 :: S) h := Rg rfl
theorem e18_5 {L : Lo} {S : List Value} {h : Hp} {x0 x1 x2 x3 : Option Value} {y : Option Value} {v : Int32} : Run 18 5 (x0 :: x1 :: x2 :: x3 :: y :: L) (.int v :: S) h = Run 18 7 (x0 :: x1 :: x2 :: ck x3 :: some (.int v) :: L) S h := Rg rfl
theorem e18_7 {L : Lo} {S : List Value} {h : Hp} {x0 x1 x2 x3 : Option Value} {v : Int32} : Run 18 7 (x0 :: x1 :: x2 :: x3 :: some (.int v) :: L) S h = Run 18 9 (x0 :: x1 :: x2 :: x3 :: some (.int v) :: L) (.int v :: S) h := Rg rfl
theorem e18_9 {L : Lo} {S : List Value} {h : Hp} {v : Nat} : Run 18 9 (some (.ref v) :: L) S h = Run 18 10 (some (.ref v) :: L) (.ref v :: S) h := Rg rfl
theorem e18_10 {L : Lo} {S : List Value} {h : Hp} {b : Nat} : Run 18 10 L (.ref b :: S) h = (gf h 2 0 b).bind fun v => Run 18 13 L (v :: S) h := Rb rfl fun _ => rfl
theorem e18_13 {L : Lo} {S : List Value} {h : Hp} {b : Nat} : Run 18 13 L (.ref b :: S) h = (gf h 6 5 b).bind fun v => Run 18 16 L (v :: S) h := Rb rfl fun _ => rfl
theorem e18_16 {L : Lo} {S : List Value} {h : Hp} {x z : Int32} : Run 18 16 L (.int z :: .int x :: S) h = if z ≤ x then Run 18 92 L S h else Run 18 19 L S h := Rbr (c := cnd .ge x z = true) (off := 76) rfl rfl cnd_ge
theorem e18_19 {L : Lo} {S : List Value} {h : Hp} {x0 x1 x2 x3 : Option Value} {v : Int32} : Run 18 19 (x0 :: x1 :: x2 :: x3 :: some (.int v) :: L) S h = Run 18 21 (x0 :: x1 :: x2 :: x3 :: some (.int v) :: L) (.int v :: S) h := Rg rfl
theorem e18_21 {L : Lo} {S : List Value} {h : Hp} : Run 18 21 L S h = Run 18 23 L (.int 8 :: S) h := Rg rfl
theorem e18_23 {L : Lo} {S : List Value} {h : Hp} {x z : Int32} : Run 18 23 L (.int z :: .int x :: S) h = if z ≤ x then Run 18 92 L S h else Run 18 26 L S h := Rbr (c := cnd .ge x z = true) (off := 69) rfl rfl cnd_ge
theorem e18_26 {L : Lo} {S : List Value} {h : Hp} : Run 18 26 L S h = Run 18 27 L (.int 0 :: S) h := Rg rfl
theorem e18_27 {L : Lo} {S : List Value} {h : Hp} {x0 x1 x2 x3 x4 : Option Value} {y : Option Value} {v : Int32} : Run 18 27 (x0 :: x1 :: x2 :: x3 :: x4 :: y :: L) (.int v :: S) h = Run 18 29 (x0 :: x1 :: x2 :: x3 :: ck x4 :: some (.int v) :: L) S h := Rg rfl
theorem e18_29 {L : Lo} {S : List Value} {h : Hp} {x0 x1 x2 x3 x4 : Option Value} {v : Int32} : Run 18 29 (x0 :: x1 :: x2 :: x3 :: x4 :: some (.int v) :: L) S h = Run 18 31 (x0 :: x1 :: x2 :: x3 :: x4 :: some (.int v) :: L) (.int v :: S) h := Rg rfl
theorem e18_31 {L : Lo} {S : List Value} {h : Hp} : Run 18 31 L S h = Run 18 32 L (.int 1 :: S) h := Rg rfl
theorem e18_32 {L : Lo} {S : List Value} {h : Hp} {x z : Int32} : Run 18 32 L (.int z :: .int x :: S) h = if z < x then Run 18 86 L S h else Run 18 35 L S h := Rbr (c := cnd .gt x z = true) (off := 54) rfl rfl cnd_gt
theorem e18_35 {L : Lo} {S : List Value} {h : Hp} {v : Nat} : Run 18 35 (some (.ref v) :: L) S h = Run 18 36 (some (.ref v) :: L) (.ref v :: S) h := Rg rfl
theorem e18_36 {L : Lo} {S : List Value} {h : Hp} {x0 : Option Value} {v : Nat} : Run 18 36 (x0 :: some (.ref v) :: L) S h = Run 18 37 (x0 :: some (.ref v) :: L) (.ref v :: S) h := Rg rfl
theorem e18_37 {L : Lo} {S : List Value} {h : Hp} {x0 x1 x2 x3 x4 : Option Value} {v : Int32} : Run 18 37 (x0 :: x1 :: x2 :: x3 :: x4 :: some (.int v) :: L) S h = Run 18 39 (x0 :: x1 :: x2 :: x3 :: x4 :: some (.int v) :: L) (.int v :: S) h := Rg rfl
theorem e18_39 {L : Lo} {S : List Value} {h : Hp} : Run 18 39 L S h = Run 18 40 L (.int 1 :: S) h := Rg rfl
theorem e18_40 {L : Lo} {S : List Value} {h : Hp} {x z : Int32} : Run 18 40 L (.int z :: .int x :: S) h = if x = z then Run 18 43 L S h else Run 18 47 L S h := RbrN (c := cnd .ne x z = true) (off := 7) rfl rfl cnd_ne
theorem e18_43 {L : Lo} {S : List Value} {h : Hp} : Run 18 43 L S h = Run 18 44 L (.int 1 :: S) h := Rg rfl
theorem e18_44 {L : Lo} {S : List Value} {h : Hp} : Run 18 44 L S h = Run 18 48 L S h := Rg rfl
theorem e18_47 {L : Lo} {S : List Value} {h : Hp} : Run 18 47 L S h = Run 18 48 L (.int 0 :: S) h := Rg rfl
theorem e18_48 {L : Lo} {S : List Value} {h : Hp} {v : Nat} : Run 18 48 (some (.ref v) :: L) S h = Run 18 49 (some (.ref v) :: L) (.ref v :: S) h := Rg rfl
theorem e18_49 {L : Lo} {S : List Value} {h : Hp} {b : Nat} : Run 18 49 L (.ref b :: S) h = (gf h 2 0 b).bind fun v => Run 18 52 L (v :: S) h := Rb rfl fun _ => rfl
theorem e18_52 {L : Lo} {S : List Value} {h : Hp} {b : Nat} : Run 18 52 L (.ref b :: S) h = (gf h 6 7 b).bind fun v => Run 18 55 L (v :: S) h := Rb rfl fun _ => rfl
theorem e18_55 {L : Lo} {S : List Value} {h : Hp} {x0 x1 x2 x3 : Option Value} {v : Int32} : Run 18 55 (x0 :: x1 :: x2 :: x3 :: some (.int v) :: L) S h = Run 18 57 (x0 :: x1 :: x2 :: x3 :: some (.int v) :: L) (.int v :: S) h := Rg rfl
theorem e18_57 {L : Lo} {S : List Value} {h : Hp} {i : Int32} {b : Nat} : Run 18 57 L (.int i :: .ref b :: S) h = (gaR h b i).bind fun v => Run 18 58 L (va_rf v :: S) h := Rb rfl fun _ => rfl
set_option maxRecDepth 100000 in
theorem e18_58 {L : Lo} {h : Hp} {a3 : Nat} {a2 : Int32} {a1 : Nat} {a0 : Nat} (hO : isO h a0 2 = true) : Run 18 58 L [.ref a3, .int a2, .ref a1, .ref a0] h = (Run 14 0 [some (.ref a0), some (.ref a1), some (.int a2), some (.ref a3), none, none, none] [] h).bind fun o => aft 18 58 61 L [] o := Rcv (c := 14) (As := [.ref a1, .int a2, .ref a3]) (S' := []) (pc' := 61) 2 rfl hO
theorem e18_61 {L : Lo} {S : List Value} {h : Hp} {x0 x1 x2 x3 x4 x5 : Option Value} {y : Option Value} {v : Int32} : Run 18 61 (x0 :: x1 :: x2 :: x3 :: x4 :: x5 :: y :: L) (.int v :: S) h = Run 18 63 (x0 :: x1 :: x2 :: x3 :: x4 :: ck x5 :: some (.int v) :: L) S h := Rg rfl
theorem e18_63 {L : Lo} {S : List Value} {h : Hp} {x0 x1 x2 x3 x4 x5 : Option Value} {v : Int32} : Run 18 63 (x0 :: x1 :: x2 :: x3 :: x4 :: x5 :: some (.int v) :: L) S h = Run 18 65 (x0 :: x1 :: x2 :: x3 :: x4 :: x5 :: some (.int v) :: L) (.int v :: S) h := Rg rfl
theorem e18_65 {L : Lo} {S : List Value} {h : Hp} {x0 x1 x2 : Option Value} {v : Int32} : Run 18 65 (x0 :: x1 :: x2 :: some (.int v) :: L) S h = Run 18 66 (x0 :: x1 :: x2 :: some (.int v) :: L) (.int v :: S) h := Rg rfl
theorem e18_66 {L : Lo} {S : List Value} {h : Hp} {x z : Int32} : Run 18 66 L (.int z :: .int x :: S) h = if x ≤ z then Run 18 80 L S h else Run 18 69 L S h := Rbr (c := cnd .le x z = true) (off := 14) rfl rfl cnd_le
theorem e18_69 {L : Lo} {S : List Value} {h : Hp} {x0 x1 x2 x3 x4 x5 : Option Value} {v : Int32} : Run 18 69 (x0 :: x1 :: x2 :: x3 :: x4 :: x5 :: some (.int v) :: L) S h = Run 18 71 (x0 :: x1 :: x2 :: x3 :: x4 :: x5 :: some (.int v) :: L) (.int v :: S) h := Rg rfl
theorem e18_71 {L : Lo} {S : List Value} {h : Hp} {x0 x1 x2 : Option Value} {y : Option Value} {v : Int32} : Run 18 71 (x0 :: x1 :: x2 :: y :: L) (.int v :: S) h = Run 18 72 (x0 :: x1 :: ck x2 :: some (.int v) :: L) S h := Rg rfl
theorem e18_72 {L : Lo} {S : List Value} {h : Hp} : Run 18 72 L S h = Run 18 73 L (.int 2 :: S) h := Rg rfl
theorem e18_73 {L : Lo} {S : List Value} {h : Hp} {x0 x1 x2 x3 : Option Value} {v : Int32} : Run 18 73 (x0 :: x1 :: x2 :: x3 :: some (.int v) :: L) S h = Run 18 75 (x0 :: x1 :: x2 :: x3 :: some (.int v) :: L) (.int v :: S) h := Rg rfl
theorem e18_75 {L : Lo} {S : List Value} {h : Hp} {x z : Int32} : Run 18 75 L (.int z :: .int x :: S) h = Run 18 76 L (.int (x * z) :: S) h := Rg rfl
theorem e18_76 {L : Lo} {S : List Value} {h : Hp} {x0 x1 x2 x3 x4 : Option Value} {v : Int32} : Run 18 76 (x0 :: x1 :: x2 :: x3 :: x4 :: some (.int v) :: L) S h = Run 18 78 (x0 :: x1 :: x2 :: x3 :: x4 :: some (.int v) :: L) (.int v :: S) h := Rg rfl
theorem e18_78 {L : Lo} {S : List Value} {h : Hp} {x z : Int32} : Run 18 78 L (.int z :: .int x :: S) h = Run 18 79 L (.int (x + z) :: S) h := Rg rfl
theorem e18_79 {L : Lo} {S : List Value} {h : Hp} {x0 x1 : Option Value} {y : Option Value} {v : Int32} : Run 18 79 (x0 :: x1 :: y :: L) (.int v :: S) h = Run 18 80 (x0 :: ck x1 :: some (.int v) :: L) S h := Rg rfl
theorem e18_80 {L : Lo} {S : List Value} {h : Hp} {x0 x1 x2 x3 x4 : Option Value} {v : Int32} : Run 18 80 (x0 :: x1 :: x2 :: x3 :: x4 :: some (.int v) :: L) S h = Run 18 83 (x0 :: x1 :: x2 :: x3 :: x4 :: some (.int (v + 1)) :: L) S h := Rg rfl
theorem e18_83 {L : Lo} {S : List Value} {h : Hp} : Run 18 83 L S h = Run 18 29 L S h := Rg rfl
theorem e18_86 {L : Lo} {S : List Value} {h : Hp} {x0 x1 x2 x3 : Option Value} {v : Int32} : Run 18 86 (x0 :: x1 :: x2 :: x3 :: some (.int v) :: L) S h = Run 18 89 (x0 :: x1 :: x2 :: x3 :: some (.int (v + 1)) :: L) S h := Rg rfl
theorem e18_89 {L : Lo} {S : List Value} {h : Hp} : Run 18 89 L S h = Run 18 7 L S h := Rg rfl
theorem e18_92 {L : Lo} {S : List Value} {h : Hp} {x0 x1 : Option Value} {v : Int32} : Run 18 92 (x0 :: x1 :: some (.int v) :: L) S h = Run 18 93 (x0 :: x1 :: some (.int v) :: L) (.int v :: S) h := Rg rfl
theorem e18_93 {L : Lo} {h : Hp} {x : Int32} : Run 18 93 L [.int x] h = some (.inl (some (.int x)), h) := Rd (if_pos (c := narrow .int (.int x) = .int x) rfl)
theorem e19_0 {L : Lo} {S : List Value} {h : Hp} {v : Nat} : Run 19 0 (some (.ref v) :: L) S h = Run 19 1 (some (.ref v) :: L) (.ref v :: S) h := Rg rfl
theorem e19_1 {L : Lo} {h : Hp} {a0 : Nat} : Run 19 1 L [.ref a0] h = Run 19 4 L [] h := Rg rfl
theorem e19_4 {L : Lo} {S : List Value} {h : Hp} {v : Nat} : Run 19 4 (some (.ref v) :: L) S h = Run 19 5 (some (.ref v) :: L) (.ref v :: S) h := Rg rfl
theorem e19_5 {L : Lo} {S : List Value} {h : Hp} {x0 : Option Value} {v : Nat} : Run 19 5 (x0 :: some (.ref v) :: L) S h = Run 19 6 (x0 :: some (.ref v) :: L) (.ref v :: S) h := Rg rfl
theorem e19_6 {L : Lo} {S : List Value} {h : Hp} {b : Nat} {v : Value} : Run 19 6 L (v :: .ref b :: S) h = (pf h 3 0 b v).bind fun h1 => Run 19 9 L S h1 := Rb rfl fun _ => rfl
theorem e19_9 {L : Lo} {h : Hp} : Run 19 9 L [] h = some (.inl none, h) := Rd rfl
theorem e20_0 {L : Lo} {S : List Value} {h : Hp} {x0 : Option Value} {v : Nat} : Run 20 0 (x0 :: some (.ref v) :: L) S h = Run 20 1 (x0 :: some (.ref v) :: L) (.ref v :: S) h := Rg rfl
set_option maxRecDepth 100000 in
theorem e20_1 {L : Lo} {h : Hp} {a0 : Nat} (hO : isO h a0 7 = true) : Run 20 1 L [.ref a0] h = (Run 75 0 [some (.ref a0)] [] h).bind fun o => aft 20 1 4 L [] o := Rcv (c := 75) (As := []) (S' := []) (pc' := 4) 7 rfl hO
theorem e20_4 {L : Lo} {S : List Value} {h : Hp} {x : Int32} : Run 20 4 L (.int x :: S) h = if x = 0 then Run 20 51 L S h else Run 20 7 L S h := Rbr (c := cnd .eq x 0 = true) (off := 47) rfl rfl cnd_eq
theorem e20_7 {L : Lo} {S : List Value} {h : Hp} {v : Nat} : Run 20 7 (some (.ref v) :: L) S h = Run 20 8 (some (.ref v) :: L) (.ref v :: S) h := Rg rfl
theorem e20_8 {L : Lo} {S : List Value} {h : Hp} {b : Nat} : Run 20 8 L (.ref b :: S) h = (gf h 3 0 b).bind fun v => Run 20 11 L (v :: S) h := Rb rfl fun _ => rfl
theorem e20_11 {L : Lo} {S : List Value} {h : Hp} {x0 : Option Value} {v : Nat} : Run 20 11 (x0 :: some (.ref v) :: L) S h = Run 20 12 (x0 :: some (.ref v) :: L) (.ref v :: S) h := Rg rfl
theorem e20_12 {L : Lo} {S : List Value} {h : Hp} {b : Nat} : Run 20 12 L (.ref b :: S) h = (gf h 7 2 b).bind fun v => Run 20 15 L (v :: S) h := Rb rfl fun _ => rfl
set_option maxRecDepth 100000 in
theorem e20_15 {L : Lo} {h : Hp} {a1 : Int32} {a0 : Nat} (hO : isO h a0 6 = true) : Run 20 15 L [.int a1, .ref a0] h = (Run 57 0 [some (.ref a0), some (.int a1)] [] h).bind fun o => aft 20 15 18 L [] o := Rcv (c := 57) (As := [.int a1]) (S' := []) (pc' := 18) 6 rfl hO
theorem e20_18 {L : Lo} {S : List Value} {h : Hp} : Run 20 18 L S h = Run 20 19 L (.int 3 :: S) h := Rg rfl
theorem e20_19 {L : Lo} {S : List Value} {h : Hp} {x z : Int32} : Run 20 19 L (.int z :: .int x :: S) h = if x = z then Run 20 51 L S h else Run 20 22 L S h := Rbr (c := cnd .eq x z = true) (off := 32) rfl rfl cnd_eq
theorem e20_22 {L : Lo} {S : List Value} {h : Hp} {v : Nat} : Run 20 22 (some (.ref v) :: L) S h = Run 20 23 (some (.ref v) :: L) (.ref v :: S) h := Rg rfl
theorem e20_23 {L : Lo} {S : List Value} {h : Hp} {b : Nat} : Run 20 23 L (.ref b :: S) h = (gf h 3 0 b).bind fun v => Run 20 26 L (v :: S) h := Rb rfl fun _ => rfl
theorem e20_26 {L : Lo} {S : List Value} {h : Hp} {v : Nat} : Run 20 26 (some (.ref v) :: L) S h = Run 20 27 (some (.ref v) :: L) (.ref v :: S) h := Rg rfl
theorem e20_27 {L : Lo} {S : List Value} {h : Hp} {b : Nat} : Run 20 27 L (.ref b :: S) h = (gf h 3 0 b).bind fun v => Run 20 30 L (v :: S) h := Rb rfl fun _ => rfl
theorem e20_30 {L : Lo} {S : List Value} {h : Hp} {x0 : Option Value} {v : Nat} : Run 20 30 (x0 :: some (.ref v) :: L) S h = Run 20 31 (x0 :: some (.ref v) :: L) (.ref v :: S) h := Rg rfl
theorem e20_31 {L : Lo} {S : List Value} {h : Hp} {b : Nat} : Run 20 31 L (.ref b :: S) h = (gf h 7 1 b).bind fun v => Run 20 34 L (v :: S) h := Rb rfl fun _ => rfl
theorem e20_34 {L : Lo} {S : List Value} {h : Hp} {x0 : Option Value} {v : Nat} : Run 20 34 (x0 :: some (.ref v) :: L) S h = Run 20 35 (x0 :: some (.ref v) :: L) (.ref v :: S) h := Rg rfl
theorem e20_35 {L : Lo} {S : List Value} {h : Hp} {b : Nat} : Run 20 35 L (.ref b :: S) h = (gf h 7 2 b).bind fun v => Run 20 38 L (v :: S) h := Rb rfl fun _ => rfl
set_option maxRecDepth 100000 in
theorem e20_38 {L : Lo} {h : Hp} {a3 : Int32} {a2 : Int32} {a1 : Nat} {a0 : Nat} (hO : isO h a1 6 = true) : Run 20 38 L [.int a3, .int a2, .ref a1, .ref a0] h = (Run 53 0 [some (.ref a1), some (.int a2), some (.int a3), none, none, none] [] h).bind fun o => aft 20 38 41 L [.ref a0] o := Rcv (c := 53) (As := [.int a2, .int a3]) (S' := [.ref a0]) (pc' := 41) 6 rfl hO
set_option maxRecDepth 100000 in
theorem e20_41 {L : Lo} {h : Hp} {a1 : Int32} {a0 : Nat} (hO : isO h a0 6 = true) : Run 20 41 L [.int a1, .ref a0] h = (Run 51 0 [some (.ref a0), some (.int a1)] [] h).bind fun o => aft 20 41 44 L [] o := Rcv (c := 51) (As := [.int a1]) (S' := []) (pc' := 44) 6 rfl hO
theorem e20_44 {L : Lo} {S : List Value} {h : Hp} {x : Int32} : Run 20 44 L (.int x :: S) h = if x = 0 then Run 20 51 L S h else Run 20 47 L S h := Rbr (c := cnd .eq x 0 = true) (off := 7) rfl rfl cnd_eq
theorem e20_47 {L : Lo} {S : List Value} {h : Hp} : Run 20 47 L S h = Run 20 48 L (.int 1 :: S) h := Rg rfl
theorem e20_48 {L : Lo} {S : List Value} {h : Hp} : Run 20 48 L S h = Run 20 52 L S h := Rg rfl
theorem e20_51 {L : Lo} {S : List Value} {h : Hp} : Run 20 51 L S h = Run 20 52 L (.int 0 :: S) h := Rg rfl
theorem e20_52 {L : Lo} {h : Hp} {x : Int32} (hx : narrow .boolean (.int x) = .int x) : Run 20 52 L [.int x] h = some (.inl (some (.int x)), h) := Rd (if_pos hx)
theorem e21_0 {L : Lo} {S : List Value} {h : Hp} {x0 : Option Value} {v : Nat} : Run 21 0 (x0 :: some (.ref v) :: L) S h = Run 21 1 (x0 :: some (.ref v) :: L) (.ref v :: S) h := Rg rfl
theorem e21_1 {L : Lo} {S : List Value} {h : Hp} {v : Nat} : Run 21 1 (some (.ref v) :: L) S h = Run 21 2 (some (.ref v) :: L) (.ref v :: S) h := Rg rfl
theorem e21_2 {L : Lo} {S : List Value} {h : Hp} {b : Nat} : Run 21 2 L (.ref b :: S) h = (gf h 3 0 b).bind fun v => Run 21 5 L (v :: S) h := Rb rfl fun _ => rfl
theorem e21_5 {L : Lo} {S : List Value} {h : Hp} {x0 : Option Value} {v : Nat} : Run 21 5 (x0 :: some (.ref v) :: L) S h = Run 21 6 (x0 :: some (.ref v) :: L) (.ref v :: S) h := Rg rfl
theorem e21_6 {L : Lo} {S : List Value} {h : Hp} {b : Nat} : Run 21 6 L (.ref b :: S) h = (gf h 7 1 b).bind fun v => Run 21 9 L (v :: S) h := Rb rfl fun _ => rfl
theorem e21_9 {L : Lo} {S : List Value} {h : Hp} {x0 : Option Value} {v : Nat} : Run 21 9 (x0 :: some (.ref v) :: L) S h = Run 21 10 (x0 :: some (.ref v) :: L) (.ref v :: S) h := Rg rfl
theorem e21_10 {L : Lo} {S : List Value} {h : Hp} {b : Nat} : Run 21 10 L (.ref b :: S) h = (gf h 7 2 b).bind fun v => Run 21 13 L (v :: S) h := Rb rfl fun _ => rfl
set_option maxRecDepth 100000 in
theorem e21_13 {L : Lo} {h : Hp} {a3 : Int32} {a2 : Int32} {a1 : Nat} {a0 : Nat} (hO : isO h a1 6 = true) : Run 21 13 L [.int a3, .int a2, .ref a1, .ref a0] h = (Run 53 0 [some (.ref a1), some (.int a2), some (.int a3), none, none, none] [] h).bind fun o => aft 21 13 16 L [.ref a0] o := Rcv (c := 53) (As := [.int a2, .int a3]) (S' := [.ref a0]) (pc' := 16) 6 rfl hO
theorem e21_16 {L : Lo} {S : List Value} {h : Hp} {b : Nat} {v : Value} : Run 21 16 L (v :: .ref b :: S) h = (pf h 7 1 b v).bind fun h1 => Run 21 19 L S h1 := Rb rfl fun _ => rfl
theorem e21_19 {L : Lo} {S : List Value} {h : Hp} {x0 : Option Value} {v : Nat} : Run 21 19 (x0 :: some (.ref v) :: L) S h = Run 21 20 (x0 :: some (.ref v) :: L) (.ref v :: S) h := Rg rfl
theorem e21_20 {L : Lo} {S : List Value} {h : Hp} {v : Nat} : Run 21 20 L (.ref v :: S) h = Run 21 21 L (.ref v :: .ref v :: S) h := Rg rfl
theorem e21_21 {L : Lo} {S : List Value} {h : Hp} {b : Nat} : Run 21 21 L (.ref b :: S) h = (gf h 7 9 b).bind fun v => Run 21 24 L (v :: S) h := Rb rfl fun _ => rfl
theorem e21_24 {L : Lo} {S : List Value} {h : Hp} : Run 21 24 L S h = Run 21 25 L (.int 1 :: S) h := Rg rfl
theorem e21_25 {L : Lo} {S : List Value} {h : Hp} {x z : Int32} : Run 21 25 L (.int z :: .int x :: S) h = Run 21 26 L (.int (x - z) :: S) h := Rg rfl
theorem e21_26 {L : Lo} {S : List Value} {h : Hp} {b : Nat} {v : Value} : Run 21 26 L (v :: .ref b :: S) h = (pf h 7 9 b v).bind fun h1 => Run 21 29 L S h1 := Rb rfl fun _ => rfl
theorem e21_29 {L : Lo} {S : List Value} {h : Hp} {x0 : Option Value} {v : Nat} : Run 21 29 (x0 :: some (.ref v) :: L) S h = Run 21 30 (x0 :: some (.ref v) :: L) (.ref v :: S) h := Rg rfl
theorem e21_30 {L : Lo} {S : List Value} {h : Hp} : Run 21 30 L S h = Run 21 31 L (.int 1 :: S) h := Rg rfl
theorem e21_31 {L : Lo} {S : List Value} {h : Hp} {b : Nat} {v : Value} : Run 21 31 L (v :: .ref b :: S) h = (pf h 7 14 b v).bind fun h1 => Run 21 34 L S h1 := Rb rfl fun _ => rfl
theorem e21_34 {L : Lo} {h : Hp} : Run 21 34 L [] h = some (.inl none, h) := Rd rfl
theorem e22_0 {L : Lo} {S : List Value} {h : Hp} {x0 : Option Value} {v : Nat} : Run 22 0 (x0 :: some (.ref v) :: L) S h = Run 22 1 (x0 :: some (.ref v) :: L) (.ref v :: S) h := Rg rfl
set_option maxRecDepth 100000 in
theorem e22_1 {L : Lo} {h : Hp} {a0 : Nat} (hO : isO h a0 7 = true) : Run 22 1 L [.ref a0] h = (Run 75 0 [some (.ref a0)] [] h).bind fun o => aft 22 1 4 L [] o := Rcv (c := 75) (As := []) (S' := []) (pc' := 4) 7 rfl hO
theorem e22_4 {L : Lo} {S : List Value} {h : Hp} {x : Int32} : Run 22 4 L (.int x :: S) h = if x = 0 then Run 22 34 L S h else Run 22 7 L S h := Rbr (c := cnd .eq x 0 = true) (off := 30) rfl rfl cnd_eq
theorem e22_7 {L : Lo} {S : List Value} {h : Hp} {x0 : Option Value} {v : Nat} : Run 22 7 (x0 :: some (.ref v) :: L) S h = Run 22 8 (x0 :: some (.ref v) :: L) (.ref v :: S) h := Rg rfl
theorem e22_8 {L : Lo} {S : List Value} {h : Hp} {b : Nat} : Run 22 8 L (.ref b :: S) h = (gf h 7 14 b).bind fun v => Run 22 11 L (v :: S) h := Rb rfl fun _ => rfl
theorem e22_11 {L : Lo} {S : List Value} {h : Hp} {x : Int32} : Run 22 11 L (.int x :: S) h = if x = 0 then Run 22 14 L S h else Run 22 30 L S h := RbrN (c := cnd .ne x 0 = true) (off := 19) rfl rfl cnd_ne
theorem e22_14 {L : Lo} {S : List Value} {h : Hp} {v : Nat} : Run 22 14 (some (.ref v) :: L) S h = Run 22 15 (some (.ref v) :: L) (.ref v :: S) h := Rg rfl
theorem e22_15 {L : Lo} {S : List Value} {h : Hp} {b : Nat} : Run 22 15 L (.ref b :: S) h = (gf h 3 0 b).bind fun v => Run 22 18 L (v :: S) h := Rb rfl fun _ => rfl
theorem e22_18 {L : Lo} {S : List Value} {h : Hp} {x0 : Option Value} {v : Nat} : Run 22 18 (x0 :: some (.ref v) :: L) S h = Run 22 19 (x0 :: some (.ref v) :: L) (.ref v :: S) h := Rg rfl
theorem e22_19 {L : Lo} {S : List Value} {h : Hp} {x0 x1 : Option Value} {v : Int32} : Run 22 19 (x0 :: x1 :: some (.int v) :: L) S h = Run 22 20 (x0 :: x1 :: some (.int v) :: L) (.int v :: S) h := Rg rfl
set_option maxRecDepth 100000 in
theorem e22_20 {L : Lo} {h : Hp} {a2 : Int32} {a1 : Nat} {a0 : Nat} (hO : isO h a1 7 = true) : Run 22 20 L [.int a2, .ref a1, .ref a0] h = (Run 76 0 [some (.ref a1), some (.int a2)] [] h).bind fun o => aft 22 20 23 L [.ref a0] o := Rcv (c := 76) (As := [.int a2]) (S' := [.ref a0]) (pc' := 23) 7 rfl hO
set_option maxRecDepth 100000 in
theorem e22_23 {L : Lo} {h : Hp} {a1 : Int32} {a0 : Nat} (hO : isO h a0 6 = true) : Run 22 23 L [.int a1, .ref a0] h = (Run 57 0 [some (.ref a0), some (.int a1)] [] h).bind fun o => aft 22 23 26 L [] o := Rcv (c := 57) (As := [.int a1]) (S' := []) (pc' := 26) 6 rfl hO
theorem e22_26 {L : Lo} {S : List Value} {h : Hp} : Run 22 26 L S h = Run 22 27 L (.int 3 :: S) h := Rg rfl
theorem e22_27 {L : Lo} {S : List Value} {h : Hp} {x z : Int32} : Run 22 27 L (.int z :: .int x :: S) h = if x = z then Run 22 34 L S h else Run 22 30 L S h := Rbr (c := cnd .eq x z = true) (off := 7) rfl rfl cnd_eq
theorem e22_30 {L : Lo} {S : List Value} {h : Hp} : Run 22 30 L S h = Run 22 31 L (.int 1 :: S) h := Rg rfl
theorem e22_31 {L : Lo} {S : List Value} {h : Hp} : Run 22 31 L S h = Run 22 35 L S h := Rg rfl
theorem e22_34 {L : Lo} {S : List Value} {h : Hp} : Run 22 34 L S h = Run 22 35 L (.int 0 :: S) h := Rg rfl
theorem e22_35 {L : Lo} {h : Hp} {x : Int32} (hx : narrow .boolean (.int x) = .int x) : Run 22 35 L [.int x] h = some (.inl (some (.int x)), h) := Rd (if_pos hx)
theorem e23_0 {L : Lo} {S : List Value} {h : Hp} {x0 : Option Value} {v : Nat} : Run 23 0 (x0 :: some (.ref v) :: L) S h = Run 23 1 (x0 :: some (.ref v) :: L) (.ref v :: S) h := Rg rfl
theorem e23_1 {L : Lo} {S : List Value} {h : Hp} {b : Nat} : Run 23 1 L (.ref b :: S) h = (gf h 7 4 b).bind fun v => Run 23 4 L (v :: S) h := Rb rfl fun _ => rfl
theorem e23_4 {L : Lo} {S : List Value} {h : Hp} {x : Int32} : Run 23 4 L (.int x :: S) h = if x ≤ 0 then Run 23 11 L S h else Run 23 7 L S h := Rbr (c := cnd .le x 0 = true) (off := 7) rfl rfl cnd_le
theorem e23_7 {L : Lo} {S : List Value} {h : Hp} : Run 23 7 L S h = Run 23 8 L (.int 1 :: S) h := Rg rfl
theorem e23_8 {L : Lo} {S : List Value} {h : Hp} : Run 23 8 L S h = Run 23 12 L S h := Rg rfl
theorem e23_11 {L : Lo} {S : List Value} {h : Hp} : Run 23 11 L S h = Run 23 12 L (.int 0 :: S) h := Rg rfl
theorem e23_12 {L : Lo} {S : List Value} {h : Hp} {x0 x1 : Option Value} {y : Option Value} {v : Int32} : Run 23 12 (x0 :: x1 :: y :: L) (.int v :: S) h = Run 23 13 (x0 :: ck x1 :: some (.int v) :: L) S h := Rg rfl
theorem e23_13 {L : Lo} {S : List Value} {h : Hp} {x0 : Option Value} {v : Nat} : Run 23 13 (x0 :: some (.ref v) :: L) S h = Run 23 14 (x0 :: some (.ref v) :: L) (.ref v :: S) h := Rg rfl
theorem e23_14 {L : Lo} {S : List Value} {h : Hp} {x0 x1 : Option Value} {v : Int32} : Run 23 14 (x0 :: x1 :: some (.int v) :: L) S h = Run 23 15 (x0 :: x1 :: some (.int v) :: L) (.int v :: S) h := Rg rfl
theorem e23_15 {L : Lo} {S : List Value} {h : Hp} {v : Nat} : Run 23 15 (some (.ref v) :: L) S h = Run 23 16 (some (.ref v) :: L) (.ref v :: S) h := Rg rfl
theorem e23_16 {L : Lo} {S : List Value} {h : Hp} {b : Nat} : Run 23 16 L (.ref b :: S) h = (gf h 3 0 b).bind fun v => Run 23 19 L (v :: S) h := Rb rfl fun _ => rfl
theorem e23_19 {L : Lo} {S : List Value} {h : Hp} {x0 : Option Value} {v : Nat} : Run 23 19 (x0 :: some (.ref v) :: L) S h = Run 23 20 (x0 :: some (.ref v) :: L) (.ref v :: S) h := Rg rfl
theorem e23_20 {L : Lo} {S : List Value} {h : Hp} {v : Nat} : Run 23 20 (some (.ref v) :: L) S h = Run 23 21 (some (.ref v) :: L) (.ref v :: S) h := Rg rfl
theorem e23_21 {L : Lo} {S : List Value} {h : Hp} {b : Nat} : Run 23 21 L (.ref b :: S) h = (gf h 3 0 b).bind fun v => Run 23 24 L (v :: S) h := Rb rfl fun _ => rfl
theorem e23_24 {L : Lo} {S : List Value} {h : Hp} {b : Nat} : Run 23 24 L (.ref b :: S) h = (gf h 6 2 b).bind fun v => Run 23 27 L (v :: S) h := Rb rfl fun _ => rfl
set_option maxRecDepth 100000 in
theorem e23_27 {L : Lo} {h : Hp} {a4 : Int32} {a3 : Nat} {a2 : Nat} {a1 : Int32} {a0 : Nat} (hO : isO h a2 6 = true) : Run 23 27 L [.int a4, .ref a3, .ref a2, .int a1, .ref a0] h = (Run 60 0 [some (.ref a2), some (.ref a3), some (.int a4), none] [] h).bind fun o => aft 23 27 30 L [.int a1, .ref a0] o := Rcv (c := 60) (As := [.ref a3, .int a4]) (S' := [.int a1, .ref a0]) (pc' := 30) 6 rfl hO
set_option maxRecDepth 100000 in
theorem e23_30 {L : Lo} {h : Hp} {a2 : Int32} {a1 : Int32} {a0 : Nat} : Run 23 30 L [.int a2, .int a1, .ref a0] h = (Run 116 0 [some (.int a1), some (.int a2)] [] h).bind fun o => aft 23 30 33 L [.ref a0] o := Rc (c := 116) (As := [.int a1, .int a2]) (S' := [.ref a0]) (pc' := 33) rfl
theorem e23_33 {L : Lo} {S : List Value} {h : Hp} {b : Nat} {v : Value} : Run 23 33 L (v :: .ref b :: S) h = (pf h 7 9 b v).bind fun h1 => Run 23 36 L S h1 := Rb rfl fun _ => rfl
theorem e23_36 {L : Lo} {S : List Value} {h : Hp} {x0 : Option Value} {v : Nat} : Run 23 36 (x0 :: some (.ref v) :: L) S h = Run 23 37 (x0 :: some (.ref v) :: L) (.ref v :: S) h := Rg rfl
theorem e23_37 {L : Lo} {S : List Value} {h : Hp} : Run 23 37 L S h = Run 23 38 L (.int 0 :: S) h := Rg rfl
theorem e23_38 {L : Lo} {S : List Value} {h : Hp} {b : Nat} {v : Value} : Run 23 38 L (v :: .ref b :: S) h = (pf h 7 14 b v).bind fun h1 => Run 23 41 L S h1 := Rb rfl fun _ => rfl
theorem e23_41 {L : Lo} {S : List Value} {h : Hp} {x0 : Option Value} {v : Nat} : Run 23 41 (x0 :: some (.ref v) :: L) S h = Run 23 42 (x0 :: some (.ref v) :: L) (.ref v :: S) h := Rg rfl
theorem e23_42 {L : Lo} {S : List Value} {h : Hp} : Run 23 42 L S h = Run 23 43 L (.int 0 :: S) h := Rg rfl
theorem e23_43 {L : Lo} {S : List Value} {h : Hp} {b : Nat} {v : Value} : Run 23 43 L (v :: .ref b :: S) h = (pf h 7 13 b v).bind fun h1 => Run 23 46 L S h1 := Rb rfl fun _ => rfl
theorem e23_46 {L : Lo} {h : Hp} : Run 23 46 L [] h = some (.inl none, h) := Rd rfl
theorem e24_0 {L : Lo} {S : List Value} {h : Hp} : Run 24 0 L S h = Run 24 1 L (.int 0 :: S) h := Rg rfl
theorem e24_1 {L : Lo} {S : List Value} {h : Hp} {x0 : Option Value} {y : Option Value} {v : Int32} : Run 24 1 (x0 :: y :: L) (.int v :: S) h = Run 24 2 (ck x0 :: some (.int v) :: L) S h := Rg rfl
theorem e24_2 {L : Lo} {S : List Value} {h : Hp} : Run 24 2 L S h = Run 24 3 L (.int 0 :: S) h := Rg rfl
theorem e24_3 {L : Lo} {S : List Value} {h : Hp} {x0 x1 : Option Value} {y : Option Value} {v : Int32} : Run 24 3 (x0 :: x1 :: y :: L) (.int v :: S) h = Run 24 4 (x0 :: ck x1 :: some (.int v) :: L) S h := Rg rfl
theorem e24_4 {L : Lo} {S : List Value} {h : Hp} {x0 x1 : Option Value} {v : Int32} : Run 24 4 (x0 :: x1 :: some (.int v) :: L) S h = Run 24 5 (x0 :: x1 :: some (.int v) :: L) (.int v :: S) h := Rg rfl
theorem e24_5 {L : Lo} {S : List Value} {h : Hp} {v : Nat} : Run 24 5 (some (.ref v) :: L) S h = Run 24 6 (some (.ref v) :: L) (.ref v :: S) h := Rg rfl
theorem e24_6 {L : Lo} {S : List Value} {h : Hp} {b : Nat} : Run 24 6 L (.ref b :: S) h = (gf h 3 0 b).bind fun v => Run 24 9 L (v :: S) h := Rb rfl fun _ => rfl
theorem e24_9 {L : Lo} {S : List Value} {h : Hp} {b : Nat} : Run 24 9 L (.ref b :: S) h = (gf h 6 5 b).bind fun v => Run 24 12 L (v :: S) h := Rb rfl fun _ => rfl
theorem e24_12 {L : Lo} {S : List Value} {h : Hp} {x z : Int32} : Run 24 12 L (.int z :: .int x :: S) h = if z ≤ x then Run 24 46 L S h else Run 24 15 L S h := Rbr (c := cnd .ge x z = true) (off := 34) rfl rfl cnd_ge
theorem e24_15 {L : Lo} {S : List Value} {h : Hp} {x0 x1 : Option Value} {v : Int32} : Run 24 15 (x0 :: x1 :: some (.int v) :: L) S h = Run 24 16 (x0 :: x1 :: some (.int v) :: L) (.int v :: S) h := Rg rfl
theorem e24_16 {L : Lo} {S : List Value} {h : Hp} : Run 24 16 L S h = Run 24 18 L (.int 8 :: S) h := Rg rfl
theorem e24_18 {L : Lo} {S : List Value} {h : Hp} {x z : Int32} : Run 24 18 L (.int z :: .int x :: S) h = if z ≤ x then Run 24 46 L S h else Run 24 21 L S h := Rbr (c := cnd .ge x z = true) (off := 28) rfl rfl cnd_ge
theorem e24_21 {L : Lo} {S : List Value} {h : Hp} {v : Nat} : Run 24 21 (some (.ref v) :: L) S h = Run 24 22 (some (.ref v) :: L) (.ref v :: S) h := Rg rfl
theorem e24_22 {L : Lo} {S : List Value} {h : Hp} {v : Nat} : Run 24 22 (some (.ref v) :: L) S h = Run 24 23 (some (.ref v) :: L) (.ref v :: S) h := Rg rfl
theorem e24_23 {L : Lo} {S : List Value} {h : Hp} {b : Nat} : Run 24 23 L (.ref b :: S) h = (gf h 3 0 b).bind fun v => Run 24 26 L (v :: S) h := Rb rfl fun _ => rfl
theorem e24_26 {L : Lo} {S : List Value} {h : Hp} {b : Nat} : Run 24 26 L (.ref b :: S) h = (gf h 6 7 b).bind fun v => Run 24 29 L (v :: S) h := Rb rfl fun _ => rfl
theorem e24_29 {L : Lo} {S : List Value} {h : Hp} {x0 x1 : Option Value} {v : Int32} : Run 24 29 (x0 :: x1 :: some (.int v) :: L) S h = Run 24 30 (x0 :: x1 :: some (.int v) :: L) (.int v :: S) h := Rg rfl
theorem e24_30 {L : Lo} {S : List Value} {h : Hp} {i : Int32} {b : Nat} : Run 24 30 L (.int i :: .ref b :: S) h = (gaR h b i).bind fun v => Run 24 31 L (va_rf v :: S) h := Rb rfl fun _ => rfl
set_option maxRecDepth 100000 in
theorem e24_31 {L : Lo} {h : Hp} {a1 : Nat} {a0 : Nat} (hO : isO h a0 3 = true) : Run 24 31 L [.ref a1, .ref a0] h = (Run 25 0 [some (.ref a0), some (.ref a1), none] [] h).bind fun o => aft 24 31 34 L [] o := Rcv (c := 25) (As := [.ref a1]) (S' := []) (pc' := 34) 3 rfl hO
theorem e24_34 {L : Lo} {S : List Value} {h : Hp} {x : Int32} : Run 24 34 L (.int x :: S) h = if x = 0 then Run 24 40 L S h else Run 24 37 L S h := Rbr (c := cnd .eq x 0 = true) (off := 6) rfl rfl cnd_eq
theorem e24_37 {L : Lo} {S : List Value} {h : Hp} {x0 : Option Value} {v : Int32} : Run 24 37 (x0 :: some (.int v) :: L) S h = Run 24 40 (x0 :: some (.int (v + 1)) :: L) S h := Rg rfl
theorem e24_40 {L : Lo} {S : List Value} {h : Hp} {x0 x1 : Option Value} {v : Int32} : Run 24 40 (x0 :: x1 :: some (.int v) :: L) S h = Run 24 43 (x0 :: x1 :: some (.int (v + 1)) :: L) S h := Rg rfl
theorem e24_43 {L : Lo} {S : List Value} {h : Hp} : Run 24 43 L S h = Run 24 4 L S h := Rg rfl
theorem e24_46 {L : Lo} {S : List Value} {h : Hp} {v : Nat} : Run 24 46 (some (.ref v) :: L) S h = Run 24 47 (some (.ref v) :: L) (.ref v :: S) h := Rg rfl
theorem e24_47 {L : Lo} {S : List Value} {h : Hp} {b : Nat} : Run 24 47 L (.ref b :: S) h = (gf h 3 0 b).bind fun v => Run 24 50 L (v :: S) h := Rb rfl fun _ => rfl
theorem e24_50 {L : Lo} {S : List Value} {h : Hp} {v : Nat} : Run 24 50 L (.ref v :: S) h = Run 24 51 L (.ref v :: .ref v :: S) h := Rg rfl
theorem e24_51 {L : Lo} {S : List Value} {h : Hp} {b : Nat} : Run 24 51 L (.ref b :: S) h = (gf h 6 4 b).bind fun v => Run 24 54 L (v :: S) h := Rb rfl fun _ => rfl
theorem e24_54 {L : Lo} {S : List Value} {h : Hp} : Run 24 54 L S h = Run 24 55 L (.int 1 :: S) h := Rg rfl
theorem e24_55 {L : Lo} {S : List Value} {h : Hp} {x z : Int32} : Run 24 55 L (.int z :: .int x :: S) h = Run 24 56 L (.int (x + z) :: S) h := Rg rfl
theorem e24_56 {L : Lo} {S : List Value} {h : Hp} {b : Nat} {v : Value} : Run 24 56 L (v :: .ref b :: S) h = (pf h 6 4 b v).bind fun h1 => Run 24 59 L S h1 := Rb rfl fun _ => rfl
theorem e24_59 {L : Lo} {S : List Value} {h : Hp} : Run 24 59 L S h = Run 24 60 L (.int 0 :: S) h := Rg rfl
theorem e24_60 {L : Lo} {S : List Value} {h : Hp} {x0 x1 : Option Value} {y : Option Value} {v : Int32} : Run 24 60 (x0 :: x1 :: y :: L) (.int v :: S) h = Run 24 61 (x0 :: ck x1 :: some (.int v) :: L) S h := Rg rfl
theorem e24_61 {L : Lo} {S : List Value} {h : Hp} {x0 x1 : Option Value} {v : Int32} : Run 24 61 (x0 :: x1 :: some (.int v) :: L) S h = Run 24 62 (x0 :: x1 :: some (.int v) :: L) (.int v :: S) h := Rg rfl
theorem e24_62 {L : Lo} {S : List Value} {h : Hp} {v : Nat} : Run 24 62 (some (.ref v) :: L) S h = Run 24 63 (some (.ref v) :: L) (.ref v :: S) h := Rg rfl
theorem e24_63 {L : Lo} {S : List Value} {h : Hp} {b : Nat} : Run 24 63 L (.ref b :: S) h = (gf h 3 0 b).bind fun v => Run 24 66 L (v :: S) h := Rb rfl fun _ => rfl
theorem e24_66 {L : Lo} {S : List Value} {h : Hp} {b : Nat} : Run 24 66 L (.ref b :: S) h = (gf h 6 5 b).bind fun v => Run 24 69 L (v :: S) h := Rb rfl fun _ => rfl
theorem e24_69 {L : Lo} {S : List Value} {h : Hp} {x z : Int32} : Run 24 69 L (.int z :: .int x :: S) h = if z ≤ x then Run 24 109 L S h else Run 24 72 L S h := Rbr (c := cnd .ge x z = true) (off := 40) rfl rfl cnd_ge
theorem e24_72 {L : Lo} {S : List Value} {h : Hp} {x0 x1 : Option Value} {v : Int32} : Run 24 72 (x0 :: x1 :: some (.int v) :: L) S h = Run 24 73 (x0 :: x1 :: some (.int v) :: L) (.int v :: S) h := Rg rfl
theorem e24_73 {L : Lo} {S : List Value} {h : Hp} : Run 24 73 L S h = Run 24 75 L (.int 8 :: S) h := Rg rfl
theorem e24_75 {L : Lo} {S : List Value} {h : Hp} {x z : Int32} : Run 24 75 L (.int z :: .int x :: S) h = if z ≤ x then Run 24 109 L S h else Run 24 78 L S h := Rbr (c := cnd .ge x z = true) (off := 34) rfl rfl cnd_ge
theorem e24_78 {L : Lo} {S : List Value} {h : Hp} {v : Nat} : Run 24 78 (some (.ref v) :: L) S h = Run 24 79 (some (.ref v) :: L) (.ref v :: S) h := Rg rfl
theorem e24_79 {L : Lo} {S : List Value} {h : Hp} {b : Nat} : Run 24 79 L (.ref b :: S) h = (gf h 3 0 b).bind fun v => Run 24 82 L (v :: S) h := Rb rfl fun _ => rfl
theorem e24_82 {L : Lo} {S : List Value} {h : Hp} {b : Nat} : Run 24 82 L (.ref b :: S) h = (gf h 6 7 b).bind fun v => Run 24 85 L (v :: S) h := Rb rfl fun _ => rfl
theorem e24_85 {L : Lo} {S : List Value} {h : Hp} {x0 x1 : Option Value} {v : Int32} : Run 24 85 (x0 :: x1 :: some (.int v) :: L) S h = Run 24 86 (x0 :: x1 :: some (.int v) :: L) (.int v :: S) h := Rg rfl
theorem e24_86 {L : Lo} {S : List Value} {h : Hp} {i : Int32} {b : Nat} : Run 24 86 L (.int i :: .ref b :: S) h = (gaR h b i).bind fun v => Run 24 87 L (va_rf v :: S) h := Rb rfl fun _ => rfl
set_option maxRecDepth 100000 in
theorem e24_87 {L : Lo} {h : Hp} {a0 : Nat} (hO : isO h a0 7 = true) : Run 24 87 L [.ref a0] h = (Run 81 0 [some (.ref a0)] [] h).bind fun o => aft 24 87 90 L [] o := Rcv (c := 81) (As := []) (S' := []) (pc' := 90) 7 rfl hO
theorem e24_90 {L : Lo} {S : List Value} {h : Hp} {v : Nat} : Run 24 90 (some (.ref v) :: L) S h = Run 24 91 (some (.ref v) :: L) (.ref v :: S) h := Rg rfl
theorem e24_91 {L : Lo} {S : List Value} {h : Hp} {v : Nat} : Run 24 91 (some (.ref v) :: L) S h = Run 24 92 (some (.ref v) :: L) (.ref v :: S) h := Rg rfl
theorem e24_92 {L : Lo} {S : List Value} {h : Hp} {b : Nat} : Run 24 92 L (.ref b :: S) h = (gf h 3 0 b).bind fun v => Run 24 95 L (v :: S) h := Rb rfl fun _ => rfl
theorem e24_95 {L : Lo} {S : List Value} {h : Hp} {b : Nat} : Run 24 95 L (.ref b :: S) h = (gf h 6 7 b).bind fun v => Run 24 98 L (v :: S) h := Rb rfl fun _ => rfl
theorem e24_98 {L : Lo} {S : List Value} {h : Hp} {x0 x1 : Option Value} {v : Int32} : Run 24 98 (x0 :: x1 :: some (.int v) :: L) S h = Run 24 99 (x0 :: x1 :: some (.int v) :: L) (.int v :: S) h := Rg rfl
theorem e24_99 {L : Lo} {S : List Value} {h : Hp} {i : Int32} {b : Nat} : Run 24 99 L (.int i :: .ref b :: S) h = (gaR h b i).bind fun v => Run 24 100 L (va_rf v :: S) h := Rb rfl fun _ => rfl
set_option maxRecDepth 100000 in
theorem e24_100 {L : Lo} {h : Hp} {a1 : Nat} {a0 : Nat} (hO : isO h a0 3 = true) : Run 24 100 L [.ref a1, .ref a0] h = (Run 23 0 [some (.ref a0), some (.ref a1), none] [] h).bind fun o => aft 24 100 103 L [] o := Rcv (c := 23) (As := [.ref a1]) (S' := []) (pc' := 103) 3 rfl hO
theorem e24_103 {L : Lo} {S : List Value} {h : Hp} {x0 x1 : Option Value} {v : Int32} : Run 24 103 (x0 :: x1 :: some (.int v) :: L) S h = Run 24 106 (x0 :: x1 :: some (.int (v + 1)) :: L) S h := Rg rfl
theorem e24_106 {L : Lo} {S : List Value} {h : Hp} : Run 24 106 L S h = Run 24 61 L S h := Rg rfl
theorem e24_109 {L : Lo} {S : List Value} {h : Hp} {x0 : Option Value} {v : Int32} : Run 24 109 (x0 :: some (.int v) :: L) S h = Run 24 110 (x0 :: some (.int v) :: L) (.int v :: S) h := Rg rfl
theorem e24_110 {L : Lo} {h : Hp} {x : Int32} : Run 24 110 L [.int x] h = some (.inl (some (.int x)), h) := Rd (if_pos (c := narrow .int (.int x) = .int x) rfl)
theorem e25_0 {L : Lo} {S : List Value} {h : Hp} {x0 : Option Value} {v : Nat} : Run 25 0 (x0 :: some (.ref v) :: L) S h = Run 25 1 (x0 :: some (.ref v) :: L) (.ref v :: S) h := Rg rfl
set_option maxRecDepth 100000 in
theorem e25_1 {L : Lo} {h : Hp} {a0 : Nat} (hO : isO h a0 7 = true) : Run 25 1 L [.ref a0] h = (Run 73 0 [some (.ref a0)] [] h).bind fun o => aft 25 1 4 L [] o := Rcv (c := 73) (As := []) (S' := []) (pc' := 4) 7 rfl hO
theorem e25_4 {L : Lo} {S : List Value} {h : Hp} {x : Int32} : Run 25 4 L (.int x :: S) h = if x = 0 then Run 25 21 L S h else Run 25 7 L S h := Rbr (c := cnd .eq x 0 = true) (off := 17) rfl rfl cnd_eq
theorem e25_7 {L : Lo} {S : List Value} {h : Hp} {x0 : Option Value} {v : Nat} : Run 25 7 (x0 :: some (.ref v) :: L) S h = Run 25 8 (x0 :: some (.ref v) :: L) (.ref v :: S) h := Rg rfl
theorem e25_8 {L : Lo} {S : List Value} {h : Hp} {b : Nat} : Run 25 8 L (.ref b :: S) h = (gf h 7 4 b).bind fun v => Run 25 11 L (v :: S) h := Rb rfl fun _ => rfl
theorem e25_11 {L : Lo} {S : List Value} {h : Hp} {x : Int32} : Run 25 11 L (.int x :: S) h = if 0 < x then Run 25 21 L S h else Run 25 14 L S h := Rbr (c := cnd .gt x 0 = true) (off := 10) rfl rfl cnd_gt
theorem e25_14 {L : Lo} {S : List Value} {h : Hp} {x0 : Option Value} {v : Nat} : Run 25 14 (x0 :: some (.ref v) :: L) S h = Run 25 15 (x0 :: some (.ref v) :: L) (.ref v :: S) h := Rg rfl
set_option maxRecDepth 100000 in
theorem e25_15 {L : Lo} {h : Hp} {a0 : Nat} (hO : isO h a0 7 = true) : Run 25 15 L [.ref a0] h = (Run 74 0 [some (.ref a0)] [] h).bind fun o => aft 25 15 18 L [] o := Rcv (c := 74) (As := []) (S' := []) (pc' := 18) 7 rfl hO
theorem e25_18 {L : Lo} {S : List Value} {h : Hp} {x : Int32} : Run 25 18 L (.int x :: S) h = if x = 0 then Run 25 23 L S h else Run 25 21 L S h := Rbr (c := cnd .eq x 0 = true) (off := 5) rfl rfl cnd_eq
theorem e25_21 {L : Lo} {S : List Value} {h : Hp} : Run 25 21 L S h = Run 25 22 L (.int 0 :: S) h := Rg rfl
theorem e25_22 {L : Lo} {h : Hp} {x : Int32} (hx : narrow .boolean (.int x) = .int x) : Run 25 22 L [.int x] h = some (.inl (some (.int x)), h) := Rd (if_pos hx)
theorem e25_23 {L : Lo} {S : List Value} {h : Hp} {v : Nat} : Run 25 23 (some (.ref v) :: L) S h = Run 25 24 (some (.ref v) :: L) (.ref v :: S) h := Rg rfl
theorem e25_24 {L : Lo} {S : List Value} {h : Hp} {b : Nat} : Run 25 24 L (.ref b :: S) h = (gf h 3 0 b).bind fun v => Run 25 27 L (v :: S) h := Rb rfl fun _ => rfl
theorem e25_27 {L : Lo} {S : List Value} {h : Hp} {x0 : Option Value} {v : Nat} : Run 25 27 (x0 :: some (.ref v) :: L) S h = Run 25 28 (x0 :: some (.ref v) :: L) (.ref v :: S) h := Rg rfl
theorem e25_28 {L : Lo} {S : List Value} {h : Hp} {b : Nat} : Run 25 28 L (.ref b :: S) h = (gf h 7 1 b).bind fun v => Run 25 31 L (v :: S) h := Rb rfl fun _ => rfl
theorem e25_31 {L : Lo} {S : List Value} {h : Hp} {v : Nat} : Run 25 31 (some (.ref v) :: L) S h = Run 25 32 (some (.ref v) :: L) (.ref v :: S) h := Rg rfl
theorem e25_32 {L : Lo} {S : List Value} {h : Hp} {b : Nat} : Run 25 32 L (.ref b :: S) h = (gf h 3 0 b).bind fun v => Run 25 35 L (v :: S) h := Rb rfl fun _ => rfl
theorem e25_35 {L : Lo} {S : List Value} {h : Hp} {b : Nat} : Run 25 35 L (.ref b :: S) h = (gf h 6 2 b).bind fun v => Run 25 38 L (v :: S) h := Rb rfl fun _ => rfl
set_option maxRecDepth 100000 in
theorem e25_38 {L : Lo} {h : Hp} {a2 : Int32} {a1 : Int32} {a0 : Nat} (hO : isO h a0 6 = true) : Run 25 38 L [.int a2, .int a1, .ref a0] h = (Run 53 0 [some (.ref a0), some (.int a1), some (.int a2), none, none, none] [] h).bind fun o => aft 25 38 41 L [] o := Rcv (c := 53) (As := [.int a1, .int a2]) (S' := []) (pc' := 41) 6 rfl hO
theorem e25_41 {L : Lo} {S : List Value} {h : Hp} {x0 x1 : Option Value} {y : Option Value} {v : Int32} : Run 25 41 (x0 :: x1 :: y :: L) (.int v :: S) h = Run 25 42 (x0 :: ck x1 :: some (.int v) :: L) S h := Rg rfl
theorem e25_42 {L : Lo} {S : List Value} {h : Hp} {v : Nat} : Run 25 42 (some (.ref v) :: L) S h = Run 25 43 (some (.ref v) :: L) (.ref v :: S) h := Rg rfl
theorem e25_43 {L : Lo} {S : List Value} {h : Hp} {b : Nat} : Run 25 43 L (.ref b :: S) h = (gf h 3 0 b).bind fun v => Run 25 46 L (v :: S) h := Rb rfl fun _ => rfl
theorem e25_46 {L : Lo} {S : List Value} {h : Hp} {b : Nat} : Run 25 46 L (.ref b :: S) h = (gf h 6 3 b).bind fun v => Run 25 49 L (v :: S) h := Rb rfl fun _ => rfl
theorem e25_49 {L : Lo} {S : List Value} {h : Hp} {x : Int32} : Run 25 49 L (.int x :: S) h = if x ≤ 0 then Run 25 63 L S h else Run 25 52 L S h := Rbr (c := cnd .le x 0 = true) (off := 14) rfl rfl cnd_le
theorem e25_52 {L : Lo} {S : List Value} {h : Hp} {v : Nat} : Run 25 52 (some (.ref v) :: L) S h = Run 25 53 (some (.ref v) :: L) (.ref v :: S) h := Rg rfl
theorem e25_53 {L : Lo} {S : List Value} {h : Hp} {b : Nat} : Run 25 53 L (.ref b :: S) h = (gf h 3 0 b).bind fun v => Run 25 56 L (v :: S) h := Rb rfl fun _ => rfl
theorem e25_56 {L : Lo} {S : List Value} {h : Hp} {x0 x1 : Option Value} {v : Int32} : Run 25 56 (x0 :: x1 :: some (.int v) :: L) S h = Run 25 57 (x0 :: x1 :: some (.int v) :: L) (.int v :: S) h := Rg rfl
set_option maxRecDepth 100000 in
theorem e25_57 {L : Lo} {h : Hp} {a1 : Int32} {a0 : Nat} (hO : isO h a0 6 = true) : Run 25 57 L [.int a1, .ref a0] h = (Run 51 0 [some (.ref a0), some (.int a1)] [] h).bind fun o => aft 25 57 60 L [] o := Rcv (c := 51) (As := [.int a1]) (S' := []) (pc' := 60) 6 rfl hO
theorem e25_60 {L : Lo} {S : List Value} {h : Hp} {x : Int32} : Run 25 60 L (.int x :: S) h = if x = 0 then Run 25 63 L S h else Run 25 65 L S h := RbrN (c := cnd .ne x 0 = true) (off := 5) rfl rfl cnd_ne
theorem e25_63 {L : Lo} {S : List Value} {h : Hp} : Run 25 63 L S h = Run 25 64 L (.int 0 :: S) h := Rg rfl
theorem e25_64 {L : Lo} {h : Hp} {x : Int32} (hx : narrow .boolean (.int x) = .int x) : Run 25 64 L [.int x] h = some (.inl (some (.int x)), h) := Rd (if_pos hx)
theorem e25_65 {L : Lo} {S : List Value} {h : Hp} {x0 : Option Value} {v : Nat} : Run 25 65 (x0 :: some (.ref v) :: L) S h = Run 25 66 (x0 :: some (.ref v) :: L) (.ref v :: S) h := Rg rfl
theorem e25_66 {L : Lo} {S : List Value} {h : Hp} {x0 x1 : Option Value} {v : Int32} : Run 25 66 (x0 :: x1 :: some (.int v) :: L) S h = Run 25 67 (x0 :: x1 :: some (.int v) :: L) (.int v :: S) h := Rg rfl
theorem e25_67 {L : Lo} {S : List Value} {h : Hp} {b : Nat} {v : Value} : Run 25 67 L (v :: .ref b :: S) h = (pf h 7 1 b v).bind fun h1 => Run 25 70 L S h1 := Rb rfl fun _ => rfl
theorem e25_70 {L : Lo} {S : List Value} {h : Hp} : Run 25 70 L S h = Run 25 71 L (.int 1 :: S) h := Rg rfl
theorem e25_71 {L : Lo} {h : Hp} {x : Int32} (hx : narrow .boolean (.int x) = .int x) : Run 25 71 L [.int x] h = some (.inl (some (.int x)), h) := Rd (if_pos hx)
theorem e26_0 {L : Lo} {S : List Value} {h : Hp} {x0 : Option Value} {v : Int32} : Run 26 0 (x0 :: some (.int v) :: L) S h = Run 26 1 (x0 :: some (.int v) :: L) (.int v :: S) h := Rg rfl
theorem e26_1 {L : Lo} {S : List Value} {h : Hp} : Run 26 1 L S h = Run 26 3 L (.int 101 :: S) h := Rg rfl
theorem e26_3 {L : Lo} {S : List Value} {h : Hp} {x z : Int32} : Run 26 3 L (.int z :: .int x :: S) h = if x = z then Run 26 6 L S h else Run 26 13 L S h := RbrN (c := cnd .ne x z = true) (off := 10) rfl rfl cnd_ne
theorem e26_6 {L : Lo} {S : List Value} {h : Hp} {v : Nat} : Run 26 6 (some (.ref v) :: L) S h = Run 26 7 (some (.ref v) :: L) (.ref v :: S) h := Rg rfl
set_option maxRecDepth 100000 in
theorem e26_7 {L : Lo} {h : Hp} {a0 : Nat} (hO : isO h a0 3 = true) : Run 26 7 L [.ref a0] h = (Run 24 0 [some (.ref a0), none, none] [] h).bind fun o => aft 26 7 10 L [] o := Rcv (c := 24) (As := []) (S' := []) (pc' := 10) 3 rfl hO
theorem e26_10 {L : Lo} {S : List Value} {h : Hp} {v : Int32} : Run 26 10 L (.int v :: S) h = Run 26 11 L S h := Rg rfl
theorem e26_11 {L : Lo} {S : List Value} {h : Hp} : Run 26 11 L S h = Run 26 12 L (.int 1 :: S) h := Rg rfl
theorem e26_12 {L : Lo} {h : Hp} {x : Int32} (hx : narrow .boolean (.int x) = .int x) : Run 26 12 L [.int x] h = some (.inl (some (.int x)), h) := Rd (if_pos hx)
theorem e26_13 {L : Lo} {S : List Value} {h : Hp} {x0 : Option Value} {v : Int32} : Run 26 13 (x0 :: some (.int v) :: L) S h = Run 26 14 (x0 :: some (.int v) :: L) (.int v :: S) h := Rg rfl
theorem e26_14 {L : Lo} {S : List Value} {h : Hp} : Run 26 14 L S h = Run 26 16 L (.int 119 :: S) h := Rg rfl
theorem e26_16 {L : Lo} {S : List Value} {h : Hp} {x z : Int32} : Run 26 16 L (.int z :: .int x :: S) h = if x = z then Run 26 19 L S h else Run 26 32 L S h := RbrN (c := cnd .ne x z = true) (off := 16) rfl rfl cnd_ne
theorem e26_19 {L : Lo} {S : List Value} {h : Hp} {v : Nat} : Run 26 19 (some (.ref v) :: L) S h = Run 26 20 (some (.ref v) :: L) (.ref v :: S) h := Rg rfl
theorem e26_20 {L : Lo} {S : List Value} {h : Hp} {b : Nat} : Run 26 20 L (.ref b :: S) h = (gf h 3 0 b).bind fun v => Run 26 23 L (v :: S) h := Rb rfl fun _ => rfl
theorem e26_23 {L : Lo} {S : List Value} {h : Hp} {x0 x1 : Option Value} {v : Int32} : Run 26 23 (x0 :: x1 :: some (.int v) :: L) S h = Run 26 24 (x0 :: x1 :: some (.int v) :: L) (.int v :: S) h := Rg rfl
theorem e26_24 {L : Lo} {S : List Value} {h : Hp} : Run 26 24 L S h = Run 26 26 L (.int 48 :: S) h := Rg rfl
theorem e26_26 {L : Lo} {S : List Value} {h : Hp} {x z : Int32} : Run 26 26 L (.int z :: .int x :: S) h = Run 26 27 L (.int (x - z) :: S) h := Rg rfl
theorem e26_27 {L : Lo} {S : List Value} {h : Hp} {b : Nat} {v : Value} : Run 26 27 L (v :: .ref b :: S) h = (pf h 6 2 b v).bind fun h1 => Run 26 30 L S h1 := Rb rfl fun _ => rfl
theorem e26_30 {L : Lo} {S : List Value} {h : Hp} : Run 26 30 L S h = Run 26 31 L (.int 1 :: S) h := Rg rfl
theorem e26_31 {L : Lo} {h : Hp} {x : Int32} (hx : narrow .boolean (.int x) = .int x) : Run 26 31 L [.int x] h = some (.inl (some (.int x)), h) := Rd (if_pos hx)
theorem e26_32 {L : Lo} {S : List Value} {h : Hp} {x0 : Option Value} {v : Int32} : Run 26 32 (x0 :: some (.int v) :: L) S h = Run 26 33 (x0 :: some (.int v) :: L) (.int v :: S) h := Rg rfl
theorem e26_33 {L : Lo} {S : List Value} {h : Hp} : Run 26 33 L S h = Run 26 35 L (.int 48 :: S) h := Rg rfl
theorem e26_35 {L : Lo} {S : List Value} {h : Hp} {x z : Int32} : Run 26 35 L (.int z :: .int x :: S) h = Run 26 36 L (.int (x - z) :: S) h := Rg rfl
theorem e26_36 {L : Lo} {S : List Value} {h : Hp} {x0 x1 x2 : Option Value} {y : Option Value} {v : Int32} : Run 26 36 (x0 :: x1 :: x2 :: y :: L) (.int v :: S) h = Run 26 37 (x0 :: x1 :: ck x2 :: some (.int v) :: L) S h := Rg rfl
theorem e26_37 {L : Lo} {S : List Value} {h : Hp} {v : Nat} : Run 26 37 (some (.ref v) :: L) S h = Run 26 38 (some (.ref v) :: L) (.ref v :: S) h := Rg rfl
theorem e26_38 {L : Lo} {S : List Value} {h : Hp} {b : Nat} : Run 26 38 L (.ref b :: S) h = (gf h 3 0 b).bind fun v => Run 26 41 L (v :: S) h := Rb rfl fun _ => rfl
theorem e26_41 {L : Lo} {S : List Value} {h : Hp} {x0 x1 x2 : Option Value} {v : Int32} : Run 26 41 (x0 :: x1 :: x2 :: some (.int v) :: L) S h = Run 26 42 (x0 :: x1 :: x2 :: some (.int v) :: L) (.int v :: S) h := Rg rfl
set_option maxRecDepth 100000 in
theorem e26_42 {L : Lo} {h : Hp} {a1 : Int32} {a0 : Nat} (hO : isO h a0 6 = true) : Run 26 42 L [.int a1, .ref a0] h = (Run 45 0 [some (.ref a0), some (.int a1)] [] h).bind fun o => aft 26 42 45 L [] o := Rcv (c := 45) (As := [.int a1]) (S' := []) (pc' := 45) 6 rfl hO
theorem e26_45 {L : Lo} {S : List Value} {h : Hp} {x : Int32} : Run 26 45 L (.int x :: S) h = if x = 0 then Run 26 48 L S h else Run 26 50 L S h := RbrN (c := cnd .ne x 0 = true) (off := 5) rfl rfl cnd_ne
theorem e26_48 {L : Lo} {S : List Value} {h : Hp} : Run 26 48 L S h = Run 26 49 L (.int 0 :: S) h := Rg rfl
theorem e26_49 {L : Lo} {h : Hp} {x : Int32} (hx : narrow .boolean (.int x) = .int x) : Run 26 49 L [.int x] h = some (.inl (some (.int x)), h) := Rd (if_pos hx)
theorem e26_50 {L : Lo} {S : List Value} {h : Hp} {v : Nat} : Run 26 50 (some (.ref v) :: L) S h = Run 26 51 (some (.ref v) :: L) (.ref v :: S) h := Rg rfl
theorem e26_51 {L : Lo} {S : List Value} {h : Hp} {b : Nat} : Run 26 51 L (.ref b :: S) h = (gf h 3 0 b).bind fun v => Run 26 54 L (v :: S) h := Rb rfl fun _ => rfl
theorem e26_54 {L : Lo} {S : List Value} {h : Hp} {b : Nat} : Run 26 54 L (.ref b :: S) h = (gf h 6 7 b).bind fun v => Run 26 57 L (v :: S) h := Rb rfl fun _ => rfl
theorem e26_57 {L : Lo} {S : List Value} {h : Hp} {x0 x1 x2 : Option Value} {v : Int32} : Run 26 57 (x0 :: x1 :: x2 :: some (.int v) :: L) S h = Run 26 58 (x0 :: x1 :: x2 :: some (.int v) :: L) (.int v :: S) h := Rg rfl
theorem e26_58 {L : Lo} {S : List Value} {h : Hp} {i : Int32} {b : Nat} : Run 26 58 L (.int i :: .ref b :: S) h = (gaR h b i).bind fun v => Run 26 59 L (va_rf v :: S) h := Rb rfl fun _ => rfl
theorem e26_59 {L : Lo} {S : List Value} {h : Hp} {x0 x1 x2 x3 : Option Value} {y : Option Value} {v : Nat} : Run 26 59 (x0 :: x1 :: x2 :: x3 :: y :: L) (.ref v :: S) h = Run 26 61 (x0 :: x1 :: x2 :: ck x3 :: some (.ref v) :: L) S h := Rg rfl
theorem e26_61 {L : Lo} {S : List Value} {h : Hp} {x0 x1 : Option Value} {v : Int32} : Run 26 61 (x0 :: x1 :: some (.int v) :: L) S h = Run 26 62 (x0 :: x1 :: some (.int v) :: L) (.int v :: S) h := Rg rfl
theorem e26_62 {L : Lo} {S : List Value} {h : Hp} : Run 26 62 L S h = Run 26 64 L (.int 97 :: S) h := Rg rfl
theorem e26_64 {L : Lo} {S : List Value} {h : Hp} {x z : Int32} : Run 26 64 L (.int z :: .int x :: S) h = if x = z then Run 26 67 L S h else Run 26 76 L S h := RbrN (c := cnd .ne x z = true) (off := 12) rfl rfl cnd_ne
theorem e26_67 {L : Lo} {S : List Value} {h : Hp} {v : Nat} : Run 26 67 (some (.ref v) :: L) S h = Run 26 68 (some (.ref v) :: L) (.ref v :: S) h := Rg rfl
theorem e26_68 {L : Lo} {S : List Value} {h : Hp} {x0 x1 x2 x3 : Option Value} {v : Nat} : Run 26 68 (x0 :: x1 :: x2 :: x3 :: some (.ref v) :: L) S h = Run 26 70 (x0 :: x1 :: x2 :: x3 :: some (.ref v) :: L) (.ref v :: S) h := Rg rfl
set_option maxRecDepth 100000 in
theorem e26_70 {L : Lo} {h : Hp} {a1 : Nat} {a0 : Nat} (hO : isO h a0 3 = true) : Run 26 70 L [.ref a1, .ref a0] h = (Run 27 0 [some (.ref a0), some (.ref a1)] [] h).bind fun o => aft 26 70 73 L [] o := Rcv (c := 27) (As := [.ref a1]) (S' := []) (pc' := 73) 3 rfl hO
theorem e26_73 {L : Lo} {S : List Value} {h : Hp} : Run 26 73 L S h = Run 26 93 L S h := Rg rfl
theorem e26_76 {L : Lo} {S : List Value} {h : Hp} {v : Nat} : Run 26 76 (some (.ref v) :: L) S h = Run 26 77 (some (.ref v) :: L) (.ref v :: S) h := Rg rfl
theorem e26_77 {L : Lo} {S : List Value} {h : Hp} {x0 x1 x2 x3 : Option Value} {v : Nat} : Run 26 77 (x0 :: x1 :: x2 :: x3 :: some (.ref v) :: L) S h = Run 26 79 (x0 :: x1 :: x2 :: x3 :: some (.ref v) :: L) (.ref v :: S) h := Rg rfl
theorem e26_79 {L : Lo} {S : List Value} {h : Hp} {x0 x1 : Option Value} {v : Int32} : Run 26 79 (x0 :: x1 :: some (.int v) :: L) S h = Run 26 80 (x0 :: x1 :: some (.int v) :: L) (.int v :: S) h := Rg rfl
theorem e26_80 {L : Lo} {S : List Value} {h : Hp} : Run 26 80 L S h = Run 26 82 L (.int 114 :: S) h := Rg rfl
theorem e26_82 {L : Lo} {S : List Value} {h : Hp} {x z : Int32} : Run 26 82 L (.int z :: .int x :: S) h = if x = z then Run 26 85 L S h else Run 26 89 L S h := RbrN (c := cnd .ne x z = true) (off := 7) rfl rfl cnd_ne
theorem e26_85 {L : Lo} {S : List Value} {h : Hp} : Run 26 85 L S h = Run 26 86 L (.int 1 :: S) h := Rg rfl
theorem e26_86 {L : Lo} {S : List Value} {h : Hp} : Run 26 86 L S h = Run 26 90 L S h := Rg rfl
theorem e26_89 {L : Lo} {S : List Value} {h : Hp} : Run 26 89 L S h = Run 26 90 L (.int 0 :: S) h := Rg rfl
set_option maxRecDepth 100000 in
theorem e26_90 {L : Lo} {h : Hp} {a2 : Int32} {a1 : Nat} {a0 : Nat} (hO : isO h a0 3 = true) : Run 26 90 L [.int a2, .ref a1, .ref a0] h = (Run 28 0 [some (.ref a0), some (.ref a1), some (.int a2)] [] h).bind fun o => aft 26 90 93 L [] o := Rcv (c := 28) (As := [.ref a1, .int a2]) (S' := []) (pc' := 93) 3 rfl hO
theorem e26_93 {L : Lo} {h : Hp} {x : Int32} (hx : narrow .boolean (.int x) = .int x) : Run 26 93 L [.int x] h = some (.inl (some (.int x)), h) := Rd (if_pos hx)
theorem e27_0 {L : Lo} {S : List Value} {h : Hp} {v : Nat} : Run 27 0 (some (.ref v) :: L) S h = Run 27 1 (some (.ref v) :: L) (.ref v :: S) h := Rg rfl
theorem e27_1 {L : Lo} {S : List Value} {h : Hp} {x0 : Option Value} {v : Nat} : Run 27 1 (x0 :: some (.ref v) :: L) S h = Run 27 2 (x0 :: some (.ref v) :: L) (.ref v :: S) h := Rg rfl
set_option maxRecDepth 100000 in
theorem e27_2 {L : Lo} {h : Hp} {a1 : Nat} {a0 : Nat} (hO : isO h a0 3 = true) : Run 27 2 L [.ref a1, .ref a0] h = (Run 20 0 [some (.ref a0), some (.ref a1)] [] h).bind fun o => aft 27 2 5 L [] o := Rcv (c := 20) (As := [.ref a1]) (S' := []) (pc' := 5) 3 rfl hO
theorem e27_5 {L : Lo} {S : List Value} {h : Hp} {x : Int32} : Run 27 5 L (.int x :: S) h = if x = 0 then Run 27 8 L S h else Run 27 10 L S h := RbrN (c := cnd .ne x 0 = true) (off := 5) rfl rfl cnd_ne
theorem e27_8 {L : Lo} {S : List Value} {h : Hp} : Run 27 8 L S h = Run 27 9 L (.int 0 :: S) h := Rg rfl
theorem e27_9 {L : Lo} {h : Hp} {x : Int32} (hx : narrow .boolean (.int x) = .int x) : Run 27 9 L [.int x] h = some (.inl (some (.int x)), h) := Rd (if_pos hx)
theorem e27_10 {L : Lo} {S : List Value} {h : Hp} {v : Nat} : Run 27 10 (some (.ref v) :: L) S h = Run 27 11 (some (.ref v) :: L) (.ref v :: S) h := Rg rfl
theorem e27_11 {L : Lo} {S : List Value} {h : Hp} {x0 : Option Value} {v : Nat} : Run 27 11 (x0 :: some (.ref v) :: L) S h = Run 27 12 (x0 :: some (.ref v) :: L) (.ref v :: S) h := Rg rfl
set_option maxRecDepth 100000 in
theorem e27_12 {L : Lo} {h : Hp} {a1 : Nat} {a0 : Nat} (hO : isO h a0 3 = true) : Run 27 12 L [.ref a1, .ref a0] h = (Run 21 0 [some (.ref a0), some (.ref a1)] [] h).bind fun o => aft 27 12 15 L [] o := Rcv (c := 21) (As := [.ref a1]) (S' := []) (pc' := 15) 3 rfl hO
theorem e27_15 {L : Lo} {S : List Value} {h : Hp} : Run 27 15 L S h = Run 27 16 L (.int 1 :: S) h := Rg rfl
theorem e27_16 {L : Lo} {h : Hp} {x : Int32} (hx : narrow .boolean (.int x) = .int x) : Run 27 16 L [.int x] h = some (.inl (some (.int x)), h) := Rd (if_pos hx)
theorem e28_0 {L : Lo} {S : List Value} {h : Hp} {v : Nat} : Run 28 0 (some (.ref v) :: L) S h = Run 28 1 (some (.ref v) :: L) (.ref v :: S) h := Rg rfl
theorem e28_1 {L : Lo} {S : List Value} {h : Hp} {x0 : Option Value} {v : Nat} : Run 28 1 (x0 :: some (.ref v) :: L) S h = Run 28 2 (x0 :: some (.ref v) :: L) (.ref v :: S) h := Rg rfl
theorem e28_2 {L : Lo} {S : List Value} {h : Hp} {x0 x1 : Option Value} {v : Int32} : Run 28 2 (x0 :: x1 :: some (.int v) :: L) S h = Run 28 3 (x0 :: x1 :: some (.int v) :: L) (.int v :: S) h := Rg rfl
set_option maxRecDepth 100000 in
theorem e28_3 {L : Lo} {h : Hp} {a2 : Int32} {a1 : Nat} {a0 : Nat} (hO : isO h a0 3 = true) : Run 28 3 L [.int a2, .ref a1, .ref a0] h = (Run 22 0 [some (.ref a0), some (.ref a1), some (.int a2)] [] h).bind fun o => aft 28 3 6 L [] o := Rcv (c := 22) (As := [.ref a1, .int a2]) (S' := []) (pc' := 6) 3 rfl hO
theorem e28_6 {L : Lo} {S : List Value} {h : Hp} {x : Int32} : Run 28 6 L (.int x :: S) h = if x = 0 then Run 28 9 L S h else Run 28 11 L S h := RbrN (c := cnd .ne x 0 = true) (off := 5) rfl rfl cnd_ne
theorem e28_9 {L : Lo} {S : List Value} {h : Hp} : Run 28 9 L S h = Run 28 10 L (.int 0 :: S) h := Rg rfl
theorem e28_10 {L : Lo} {h : Hp} {x : Int32} (hx : narrow .boolean (.int x) = .int x) : Run 28 10 L [.int x] h = some (.inl (some (.int x)), h) := Rd (if_pos hx)
theorem e28_11 {L : Lo} {S : List Value} {h : Hp} {x0 : Option Value} {v : Nat} : Run 28 11 (x0 :: some (.ref v) :: L) S h = Run 28 12 (x0 :: some (.ref v) :: L) (.ref v :: S) h := Rg rfl
theorem e28_12 {L : Lo} {S : List Value} {h : Hp} {x0 x1 : Option Value} {v : Int32} : Run 28 12 (x0 :: x1 :: some (.int v) :: L) S h = Run 28 13 (x0 :: x1 :: some (.int v) :: L) (.int v :: S) h := Rg rfl
set_option maxRecDepth 100000 in
theorem e28_13 {L : Lo} {h : Hp} {a1 : Int32} {a0 : Nat} (hO : isO h a0 7 = true) : Run 28 13 L [.int a1, .ref a0] h = (Run 77 0 [some (.ref a0), some (.int a1)] [] h).bind fun o => aft 28 13 16 L [] o := Rcv (c := 77) (As := [.int a1]) (S' := []) (pc' := 16) 7 rfl hO
theorem e28_16 {L : Lo} {S : List Value} {h : Hp} : Run 28 16 L S h = Run 28 17 L (.int 1 :: S) h := Rg rfl
theorem e28_17 {L : Lo} {h : Hp} {x : Int32} (hx : narrow .boolean (.int x) = .int x) : Run 28 17 L [.int x] h = some (.inl (some (.int x)), h) := Rd (if_pos hx)
theorem e29_0 {L : Lo} {S : List Value} {h : Hp} {v : Nat} : Run 29 0 (some (.ref v) :: L) S h = Run 29 1 (some (.ref v) :: L) (.ref v :: S) h := Rg rfl
theorem e29_1 {L : Lo} {h : Hp} {a0 : Nat} : Run 29 1 L [.ref a0] h = Run 29 4 L [] h := Rg rfl
theorem e29_4 {L : Lo} {S : List Value} {h : Hp} {v : Nat} : Run 29 4 (some (.ref v) :: L) S h = Run 29 5 (some (.ref v) :: L) (.ref v :: S) h := Rg rfl
theorem e29_5 {L : Lo} {S : List Value} {h : Hp} : Run 29 5 L S h = Run 29 6 L (.int 4 :: S) h := Rg rfl
theorem e29_6 {L : Lo} {S : List Value} {h : Hp} {N : Int32} (hN : ¬ N < 0 ∧ N.toNatClampNeg ≤ 60000) : Run 29 6 L (.int N :: S) h = Run 29 9 L (.ref h.1 :: S) (hnew h (blank0 2 N.toNatClampNeg) N.toNatClampNeg) := Rg (if_pos hN)
theorem e29_9 {L : Lo} {S : List Value} {h : Hp} {b : Nat} {v : Value} : Run 29 9 L (v :: .ref b :: S) h = (pf h 4 0 b v).bind fun h1 => Run 29 12 L S h1 := Rb rfl fun _ => rfl
theorem e29_12 {L : Lo} {S : List Value} {h : Hp} : Run 29 12 L S h = Run 29 13 L (.int 0 :: S) h := Rg rfl
theorem e29_13 {L : Lo} {S : List Value} {h : Hp} {x0 : Option Value} {y : Option Value} {v : Int32} : Run 29 13 (x0 :: y :: L) (.int v :: S) h = Run 29 14 (ck x0 :: some (.int v) :: L) S h := Rg rfl
theorem e29_14 {L : Lo} {S : List Value} {h : Hp} {x0 : Option Value} {v : Int32} : Run 29 14 (x0 :: some (.int v) :: L) S h = Run 29 15 (x0 :: some (.int v) :: L) (.int v :: S) h := Rg rfl
theorem e29_15 {L : Lo} {S : List Value} {h : Hp} : Run 29 15 L S h = Run 29 16 L (.int 4 :: S) h := Rg rfl
theorem e29_16 {L : Lo} {S : List Value} {h : Hp} {x z : Int32} : Run 29 16 L (.int z :: .int x :: S) h = if z ≤ x then Run 29 38 L S h else Run 29 19 L S h := Rbr (c := cnd .ge x z = true) (off := 22) rfl rfl cnd_ge
theorem e29_19 {L : Lo} {S : List Value} {h : Hp} {v : Nat} : Run 29 19 (some (.ref v) :: L) S h = Run 29 20 (some (.ref v) :: L) (.ref v :: S) h := Rg rfl
theorem e29_20 {L : Lo} {S : List Value} {h : Hp} {b : Nat} : Run 29 20 L (.ref b :: S) h = (gf h 4 0 b).bind fun v => Run 29 23 L (v :: S) h := Rb rfl fun _ => rfl
theorem e29_23 {L : Lo} {S : List Value} {h : Hp} {x0 : Option Value} {v : Int32} : Run 29 23 (x0 :: some (.int v) :: L) S h = Run 29 24 (x0 :: some (.int v) :: L) (.int v :: S) h := Rg rfl
theorem e29_24 {L : Lo} {S : List Value} {h : Hp} : Run 29 24 L S h = Run 29 27 L (.ref h.1 :: S) (hnew h (blankO 6) 8) := Rg rfl
theorem e29_27 {L : Lo} {S : List Value} {h : Hp} {v : Nat} : Run 29 27 L (.ref v :: S) h = Run 29 28 L (.ref v :: .ref v :: S) h := Rg rfl
set_option maxRecDepth 100000 in
theorem e29_28 {L : Lo} {h : Hp} {a3 : Nat} {a2 : Nat} {a1 : Int32} {a0 : Nat} : Run 29 28 L [.ref a3, .ref a2, .int a1, .ref a0] h = (Run 40 0 [some (.ref a3), none] [] h).bind fun o => aft 29 28 31 L [.ref a2, .int a1, .ref a0] o := Rc (c := 40) (As := [.ref a3]) (S' := [.ref a2, .int a1, .ref a0]) (pc' := 31) rfl
theorem e29_31 {L : Lo} {S : List Value} {h : Hp} {v : Nat} {i : Int32} {b : Nat} : Run 29 31 L (.ref v :: .int i :: .ref b :: S) h = (paR h b i v).bind fun h1 => Run 29 32 L S h1 := Rb rfl fun _ => rfl
theorem e29_32 {L : Lo} {S : List Value} {h : Hp} {x0 : Option Value} {v : Int32} : Run 29 32 (x0 :: some (.int v) :: L) S h = Run 29 35 (x0 :: some (.int (v + 1)) :: L) S h := Rg rfl
theorem e29_35 {L : Lo} {S : List Value} {h : Hp} : Run 29 35 L S h = Run 29 14 L S h := Rg rfl
theorem e29_38 {L : Lo} {S : List Value} {h : Hp} {v : Nat} : Run 29 38 (some (.ref v) :: L) S h = Run 29 39 (some (.ref v) :: L) (.ref v :: S) h := Rg rfl
theorem e29_39 {L : Lo} {S : List Value} {h : Hp} : Run 29 39 L S h = Run 29 40 L (.int 0 :: S) h := Rg rfl
theorem e29_40 {L : Lo} {S : List Value} {h : Hp} {b : Nat} {v : Value} : Run 29 40 L (v :: .ref b :: S) h = (pf h 4 1 b v).bind fun h1 => Run 29 43 L S h1 := Rb rfl fun _ => rfl
theorem e29_43 {L : Lo} {h : Hp} : Run 29 43 L [] h = some (.inl none, h) := Rd rfl
theorem e30_0 {L : Lo} {S : List Value} {h : Hp} {v : Nat} : Run 30 0 (some (.ref v) :: L) S h = Run 30 1 (some (.ref v) :: L) (.ref v :: S) h := Rg rfl
theorem e30_1 {L : Lo} {S : List Value} {h : Hp} {b : Nat} : Run 30 1 L (.ref b :: S) h = (gf h 4 1 b).bind fun v => Run 30 4 L (v :: S) h := Rb rfl fun _ => rfl
theorem e30_4 {L : Lo} {S : List Value} {h : Hp} : Run 30 4 L S h = Run 30 5 L (.int 4 :: S) h := Rg rfl
theorem e30_5 {L : Lo} {S : List Value} {h : Hp} {x z : Int32} : Run 30 5 L (.int z :: .int x :: S) h = if x < z then Run 30 12 L S h else Run 30 8 L S h := Rbr (c := cnd .lt x z = true) (off := 7) rfl rfl cnd_lt
theorem e30_8 {L : Lo} {S : List Value} {h : Hp} {v : Nat} : Run 30 8 (some (.ref v) :: L) S h = Run 30 9 (some (.ref v) :: L) (.ref v :: S) h := Rg rfl
set_option maxRecDepth 100000 in
theorem e30_9 {L : Lo} {h : Hp} {a0 : Nat} (hO : isO h a0 4 = true) : Run 30 9 L [.ref a0] h = (Run 31 0 [some (.ref a0), none, none] [] h).bind fun o => aft 30 9 12 L [] o := Rcv (c := 31) (As := []) (S' := []) (pc' := 12) 4 rfl hO
theorem e30_12 {L : Lo} {S : List Value} {h : Hp} {v : Nat} : Run 30 12 (some (.ref v) :: L) S h = Run 30 13 (some (.ref v) :: L) (.ref v :: S) h := Rg rfl
theorem e30_13 {L : Lo} {S : List Value} {h : Hp} {b : Nat} : Run 30 13 L (.ref b :: S) h = (gf h 4 0 b).bind fun v => Run 30 16 L (v :: S) h := Rb rfl fun _ => rfl
theorem e30_16 {L : Lo} {S : List Value} {h : Hp} {v : Nat} : Run 30 16 (some (.ref v) :: L) S h = Run 30 17 (some (.ref v) :: L) (.ref v :: S) h := Rg rfl
theorem e30_17 {L : Lo} {S : List Value} {h : Hp} {b : Nat} : Run 30 17 L (.ref b :: S) h = (gf h 4 1 b).bind fun v => Run 30 20 L (v :: S) h := Rb rfl fun _ => rfl
theorem e30_20 {L : Lo} {S : List Value} {h : Hp} {i : Int32} {b : Nat} : Run 30 20 L (.int i :: .ref b :: S) h = (gaR h b i).bind fun v => Run 30 21 L (va_rf v :: S) h := Rb rfl fun _ => rfl
theorem e30_21 {L : Lo} {S : List Value} {h : Hp} {x0 : Option Value} {v : Nat} : Run 30 21 (x0 :: some (.ref v) :: L) S h = Run 30 22 (x0 :: some (.ref v) :: L) (.ref v :: S) h := Rg rfl
set_option maxRecDepth 100000 in
theorem e30_22 {L : Lo} {h : Hp} {a1 : Nat} {a0 : Nat} (hO : isO h a0 6 = true) : Run 30 22 L [.ref a1, .ref a0] h = (Run 42 0 [some (.ref a0), some (.ref a1), none] [] h).bind fun o => aft 30 22 25 L [] o := Rcv (c := 42) (As := [.ref a1]) (S' := []) (pc' := 25) 6 rfl hO
theorem e30_25 {L : Lo} {S : List Value} {h : Hp} {v : Nat} : Run 30 25 (some (.ref v) :: L) S h = Run 30 26 (some (.ref v) :: L) (.ref v :: S) h := Rg rfl
theorem e30_26 {L : Lo} {S : List Value} {h : Hp} {v : Nat} : Run 30 26 L (.ref v :: S) h = Run 30 27 L (.ref v :: .ref v :: S) h := Rg rfl
theorem e30_27 {L : Lo} {S : List Value} {h : Hp} {b : Nat} : Run 30 27 L (.ref b :: S) h = (gf h 4 1 b).bind fun v => Run 30 30 L (v :: S) h := Rb rfl fun _ => rfl
theorem e30_30 {L : Lo} {S : List Value} {h : Hp} : Run 30 30 L S h = Run 30 31 L (.int 1 :: S) h := Rg rfl
theorem e30_31 {L : Lo} {S : List Value} {h : Hp} {x z : Int32} : Run 30 31 L (.int z :: .int x :: S) h = Run 30 32 L (.int (x + z) :: S) h := Rg rfl
theorem e30_32 {L : Lo} {S : List Value} {h : Hp} {b : Nat} {v : Value} : Run 30 32 L (v :: .ref b :: S) h = (pf h 4 1 b v).bind fun h1 => Run 30 35 L S h1 := Rb rfl fun _ => rfl
theorem e30_35 {L : Lo} {h : Hp} : Run 30 35 L [] h = some (.inl none, h) := Rd rfl
theorem e31_0 {L : Lo} {S : List Value} {h : Hp} {v : Nat} : Run 31 0 (some (.ref v) :: L) S h = Run 31 1 (some (.ref v) :: L) (.ref v :: S) h := Rg rfl
theorem e31_1 {L : Lo} {S : List Value} {h : Hp} {b : Nat} : Run 31 1 L (.ref b :: S) h = (gf h 4 0 b).bind fun v => Run 31 4 L (v :: S) h := Rb rfl fun _ => rfl
theorem e31_4 {L : Lo} {S : List Value} {h : Hp} : Run 31 4 L S h = Run 31 5 L (.int 0 :: S) h := Rg rfl
theorem e31_5 {L : Lo} {S : List Value} {h : Hp} {i : Int32} {b : Nat} : Run 31 5 L (.int i :: .ref b :: S) h = (gaR h b i).bind fun v => Run 31 6 L (va_rf v :: S) h := Rb rfl fun _ => rfl
theorem e31_6 {L : Lo} {S : List Value} {h : Hp} {x0 : Option Value} {y : Option Value} {v : Nat} : Run 31 6 (x0 :: y :: L) (.ref v :: S) h = Run 31 7 (ck x0 :: some (.ref v) :: L) S h := Rg rfl
theorem e31_7 {L : Lo} {S : List Value} {h : Hp} : Run 31 7 L S h = Run 31 8 L (.int 1 :: S) h := Rg rfl
theorem e31_8 {L : Lo} {S : List Value} {h : Hp} {x0 x1 : Option Value} {y : Option Value} {v : Int32} : Run 31 8 (x0 :: x1 :: y :: L) (.int v :: S) h = Run 31 9 (x0 :: ck x1 :: some (.int v) :: L) S h := Rg rfl
theorem e31_9 {L : Lo} {S : List Value} {h : Hp} {x0 x1 : Option Value} {v : Int32} : Run 31 9 (x0 :: x1 :: some (.int v) :: L) S h = Run 31 10 (x0 :: x1 :: some (.int v) :: L) (.int v :: S) h := Rg rfl
theorem e31_10 {L : Lo} {S : List Value} {h : Hp} : Run 31 10 L S h = Run 31 11 L (.int 4 :: S) h := Rg rfl
theorem e31_11 {L : Lo} {S : List Value} {h : Hp} {x z : Int32} : Run 31 11 L (.int z :: .int x :: S) h = if z ≤ x then Run 31 34 L S h else Run 31 14 L S h := Rbr (c := cnd .ge x z = true) (off := 23) rfl rfl cnd_ge
theorem e31_14 {L : Lo} {S : List Value} {h : Hp} {v : Nat} : Run 31 14 (some (.ref v) :: L) S h = Run 31 15 (some (.ref v) :: L) (.ref v :: S) h := Rg rfl
theorem e31_15 {L : Lo} {S : List Value} {h : Hp} {b : Nat} : Run 31 15 L (.ref b :: S) h = (gf h 4 0 b).bind fun v => Run 31 18 L (v :: S) h := Rb rfl fun _ => rfl
theorem e31_18 {L : Lo} {S : List Value} {h : Hp} {x0 x1 : Option Value} {v : Int32} : Run 31 18 (x0 :: x1 :: some (.int v) :: L) S h = Run 31 19 (x0 :: x1 :: some (.int v) :: L) (.int v :: S) h := Rg rfl
theorem e31_19 {L : Lo} {S : List Value} {h : Hp} : Run 31 19 L S h = Run 31 20 L (.int 1 :: S) h := Rg rfl
theorem e31_20 {L : Lo} {S : List Value} {h : Hp} {x z : Int32} : Run 31 20 L (.int z :: .int x :: S) h = Run 31 21 L (.int (x - z) :: S) h := Rg rfl
theorem e31_21 {L : Lo} {S : List Value} {h : Hp} {v : Nat} : Run 31 21 (some (.ref v) :: L) S h = Run 31 22 (some (.ref v) :: L) (.ref v :: S) h := Rg rfl
theorem e31_22 {L : Lo} {S : List Value} {h : Hp} {b : Nat} : Run 31 22 L (.ref b :: S) h = (gf h 4 0 b).bind fun v => Run 31 25 L (v :: S) h := Rb rfl fun _ => rfl
theorem e31_25 {L : Lo} {S : List Value} {h : Hp} {x0 x1 : Option Value} {v : Int32} : Run 31 25 (x0 :: x1 :: some (.int v) :: L) S h = Run 31 26 (x0 :: x1 :: some (.int v) :: L) (.int v :: S) h := Rg rfl
theorem e31_26 {L : Lo} {S : List Value} {h : Hp} {i : Int32} {b : Nat} : Run 31 26 L (.int i :: .ref b :: S) h = (gaR h b i).bind fun v => Run 31 27 L (va_rf v :: S) h := Rb rfl fun _ => rfl
theorem e31_27 {L : Lo} {S : List Value} {h : Hp} {v : Nat} {i : Int32} {b : Nat} : Run 31 27 L (.ref v :: .int i :: .ref b :: S) h = (paR h b i v).bind fun h1 => Run 31 28 L S h1 := Rb rfl fun _ => rfl
theorem e31_28 {L : Lo} {S : List Value} {h : Hp} {x0 x1 : Option Value} {v : Int32} : Run 31 28 (x0 :: x1 :: some (.int v) :: L) S h = Run 31 31 (x0 :: x1 :: some (.int (v + 1)) :: L) S h := Rg rfl
theorem e31_31 {L : Lo} {S : List Value} {h : Hp} : Run 31 31 L S h = Run 31 9 L S h := Rg rfl
theorem e31_34 {L : Lo} {S : List Value} {h : Hp} {v : Nat} : Run 31 34 (some (.ref v) :: L) S h = Run 31 35 (some (.ref v) :: L) (.ref v :: S) h := Rg rfl
theorem e31_35 {L : Lo} {S : List Value} {h : Hp} {b : Nat} : Run 31 35 L (.ref b :: S) h = (gf h 4 0 b).bind fun v => Run 31 38 L (v :: S) h := Rb rfl fun _ => rfl
theorem e31_38 {L : Lo} {S : List Value} {h : Hp} : Run 31 38 L S h = Run 31 39 L (.int 3 :: S) h := Rg rfl
theorem e31_39 {L : Lo} {S : List Value} {h : Hp} {x0 : Option Value} {v : Nat} : Run 31 39 (x0 :: some (.ref v) :: L) S h = Run 31 40 (x0 :: some (.ref v) :: L) (.ref v :: S) h := Rg rfl
theorem e31_40 {L : Lo} {S : List Value} {h : Hp} {v : Nat} {i : Int32} {b : Nat} : Run 31 40 L (.ref v :: .int i :: .ref b :: S) h = (paR h b i v).bind fun h1 => Run 31 41 L S h1 := Rb rfl fun _ => rfl
theorem e31_41 {L : Lo} {S : List Value} {h : Hp} {v : Nat} : Run 31 41 (some (.ref v) :: L) S h = Run 31 42 (some (.ref v) :: L) (.ref v :: S) h := Rg rfl
theorem e31_42 {L : Lo} {S : List Value} {h : Hp} : Run 31 42 L S h = Run 31 43 L (.int 3 :: S) h := Rg rfl
theorem e31_43 {L : Lo} {S : List Value} {h : Hp} {b : Nat} {v : Value} : Run 31 43 L (v :: .ref b :: S) h = (pf h 4 1 b v).bind fun h1 => Run 31 46 L S h1 := Rb rfl fun _ => rfl
theorem e31_46 {L : Lo} {h : Hp} : Run 31 46 L [] h = some (.inl none, h) := Rd rfl
theorem e32_0 {L : Lo} {S : List Value} {h : Hp} {v : Nat} : Run 32 0 (some (.ref v) :: L) S h = Run 32 1 (some (.ref v) :: L) (.ref v :: S) h := Rg rfl
theorem e32_1 {L : Lo} {S : List Value} {h : Hp} {b : Nat} : Run 32 1 L (.ref b :: S) h = (gf h 4 1 b).bind fun v => Run 32 4 L (v :: S) h := Rb rfl fun _ => rfl
theorem e32_4 {L : Lo} {S : List Value} {h : Hp} {x : Int32} : Run 32 4 L (.int x :: S) h = if x ≤ 0 then Run 32 38 L S h else Run 32 7 L S h := Rbr (c := cnd .le x 0 = true) (off := 34) rfl rfl cnd_le
theorem e32_7 {L : Lo} {S : List Value} {h : Hp} {v : Nat} : Run 32 7 (some (.ref v) :: L) S h = Run 32 8 (some (.ref v) :: L) (.ref v :: S) h := Rg rfl
theorem e32_8 {L : Lo} {S : List Value} {h : Hp} {b : Nat} : Run 32 8 L (.ref b :: S) h = (gf h 4 1 b).bind fun v => Run 32 11 L (v :: S) h := Rb rfl fun _ => rfl
theorem e32_11 {L : Lo} {S : List Value} {h : Hp} : Run 32 11 L S h = Run 32 12 L (.int 4 :: S) h := Rg rfl
theorem e32_12 {L : Lo} {S : List Value} {h : Hp} {x z : Int32} : Run 32 12 L (.int z :: .int x :: S) h = if z < x then Run 32 38 L S h else Run 32 15 L S h := Rbr (c := cnd .gt x z = true) (off := 26) rfl rfl cnd_gt
theorem e32_15 {L : Lo} {S : List Value} {h : Hp} {v : Nat} : Run 32 15 (some (.ref v) :: L) S h = Run 32 16 (some (.ref v) :: L) (.ref v :: S) h := Rg rfl
theorem e32_16 {L : Lo} {S : List Value} {h : Hp} {v : Nat} : Run 32 16 L (.ref v :: S) h = Run 32 17 L (.ref v :: .ref v :: S) h := Rg rfl
theorem e32_17 {L : Lo} {S : List Value} {h : Hp} {b : Nat} : Run 32 17 L (.ref b :: S) h = (gf h 4 1 b).bind fun v => Run 32 20 L (v :: S) h := Rb rfl fun _ => rfl
theorem e32_20 {L : Lo} {S : List Value} {h : Hp} : Run 32 20 L S h = Run 32 21 L (.int 1 :: S) h := Rg rfl
theorem e32_21 {L : Lo} {S : List Value} {h : Hp} {x z : Int32} : Run 32 21 L (.int z :: .int x :: S) h = Run 32 22 L (.int (x - z) :: S) h := Rg rfl
theorem e32_22 {L : Lo} {S : List Value} {h : Hp} {b : Nat} {v : Value} : Run 32 22 L (v :: .ref b :: S) h = (pf h 4 1 b v).bind fun h1 => Run 32 25 L S h1 := Rb rfl fun _ => rfl
theorem e32_25 {L : Lo} {S : List Value} {h : Hp} {x0 : Option Value} {v : Nat} : Run 32 25 (x0 :: some (.ref v) :: L) S h = Run 32 26 (x0 :: some (.ref v) :: L) (.ref v :: S) h := Rg rfl
theorem e32_26 {L : Lo} {S : List Value} {h : Hp} {v : Nat} : Run 32 26 (some (.ref v) :: L) S h = Run 32 27 (some (.ref v) :: L) (.ref v :: S) h := Rg rfl
theorem e32_27 {L : Lo} {S : List Value} {h : Hp} {b : Nat} : Run 32 27 L (.ref b :: S) h = (gf h 4 0 b).bind fun v => Run 32 30 L (v :: S) h := Rb rfl fun _ => rfl
theorem e32_30 {L : Lo} {S : List Value} {h : Hp} {v : Nat} : Run 32 30 (some (.ref v) :: L) S h = Run 32 31 (some (.ref v) :: L) (.ref v :: S) h := Rg rfl
theorem e32_31 {L : Lo} {S : List Value} {h : Hp} {b : Nat} : Run 32 31 L (.ref b :: S) h = (gf h 4 1 b).bind fun v => Run 32 34 L (v :: S) h := Rb rfl fun _ => rfl
theorem e32_34 {L : Lo} {S : List Value} {h : Hp} {i : Int32} {b : Nat} : Run 32 34 L (.int i :: .ref b :: S) h = (gaR h b i).bind fun v => Run 32 35 L (va_rf v :: S) h := Rb rfl fun _ => rfl
set_option maxRecDepth 100000 in
theorem e32_35 {L : Lo} {h : Hp} {a1 : Nat} {a0 : Nat} (hO : isO h a0 6 = true) : Run 32 35 L [.ref a1, .ref a0] h = (Run 42 0 [some (.ref a0), some (.ref a1), none] [] h).bind fun o => aft 32 35 38 L [] o := Rcv (c := 42) (As := [.ref a1]) (S' := []) (pc' := 38) 6 rfl hO
theorem e32_38 {L : Lo} {h : Hp} : Run 32 38 L [] h = some (.inl none, h) := Rd rfl
theorem e33_0 {L : Lo} {S : List Value} {h : Hp} {v : Nat} : Run 33 0 (some (.ref v) :: L) S h = Run 33 1 (some (.ref v) :: L) (.ref v :: S) h := Rg rfl
theorem e33_1 {L : Lo} {h : Hp} {a0 : Nat} : Run 33 1 L [.ref a0] h = Run 33 4 L [] h := Rg rfl
theorem e33_4 {L : Lo} {S : List Value} {h : Hp} {v : Nat} : Run 33 4 (some (.ref v) :: L) S h = Run 33 5 (some (.ref v) :: L) (.ref v :: S) h := Rg rfl
theorem e33_5 {L : Lo} {S : List Value} {h : Hp} : Run 33 5 L S h = Run 33 8 L (.int 150 :: S) h := Rg rfl
theorem e33_8 {L : Lo} {S : List Value} {h : Hp} {N : Int32} (hN : ¬ N < 0 ∧ N.toNatClampNeg ≤ 60000) : Run 33 8 L (.int N :: S) h = Run 33 10 L (.ref h.1 :: S) (hnew h (blank0 0 N.toNatClampNeg) N.toNatClampNeg) := Rg (if_pos hN)
theorem e33_10 {L : Lo} {S : List Value} {h : Hp} {b : Nat} {v : Value} : Run 33 10 L (v :: .ref b :: S) h = (pf h 5 0 b v).bind fun h1 => Run 33 13 L S h1 := Rb rfl fun _ => rfl
theorem e33_13 {L : Lo} {S : List Value} {h : Hp} {v : Nat} : Run 33 13 (some (.ref v) :: L) S h = Run 33 14 (some (.ref v) :: L) (.ref v :: S) h := Rg rfl
theorem e33_14 {L : Lo} {S : List Value} {h : Hp} : Run 33 14 L S h = Run 33 15 L (.int 0 :: S) h := Rg rfl
theorem e33_15 {L : Lo} {S : List Value} {h : Hp} {b : Nat} {v : Value} : Run 33 15 L (v :: .ref b :: S) h = (pf h 5 1 b v).bind fun h1 => Run 33 18 L S h1 := Rb rfl fun _ => rfl
theorem e33_18 {L : Lo} {h : Hp} : Run 33 18 L [] h = some (.inl none, h) := Rd rfl
theorem e34_0 {L : Lo} {S : List Value} {h : Hp} {v : Nat} : Run 34 0 (some (.ref v) :: L) S h = Run 34 1 (some (.ref v) :: L) (.ref v :: S) h := Rg rfl
theorem e34_1 {L : Lo} {S : List Value} {h : Hp} {b : Nat} : Run 34 1 L (.ref b :: S) h = (gf h 5 1 b).bind fun v => Run 34 4 L (v :: S) h := Rb rfl fun _ => rfl
theorem e34_4 {L : Lo} {S : List Value} {h : Hp} : Run 34 4 L S h = Run 34 7 L (.int 150 :: S) h := Rg rfl
theorem e34_7 {L : Lo} {S : List Value} {h : Hp} {x z : Int32} : Run 34 7 L (.int z :: .int x :: S) h = if x < z then Run 34 14 L S h else Run 34 10 L S h := Rbr (c := cnd .lt x z = true) (off := 7) rfl rfl cnd_lt
theorem e34_10 {L : Lo} {S : List Value} {h : Hp} : Run 34 10 L S h = Run 34 11 L (.int 1 :: S) h := Rg rfl
theorem e34_11 {L : Lo} {S : List Value} {h : Hp} : Run 34 11 L S h = Run 34 15 L S h := Rg rfl
theorem e34_14 {L : Lo} {S : List Value} {h : Hp} : Run 34 14 L S h = Run 34 15 L (.int 0 :: S) h := Rg rfl
theorem e34_15 {L : Lo} {h : Hp} {x : Int32} (hx : narrow .boolean (.int x) = .int x) : Run 34 15 L [.int x] h = some (.inl (some (.int x)), h) := Rd (if_pos hx)
theorem e35_0 {L : Lo} {S : List Value} {h : Hp} {v : Nat} : Run 35 0 (some (.ref v) :: L) S h = Run 35 1 (some (.ref v) :: L) (.ref v :: S) h := Rg rfl
theorem e35_1 {L : Lo} {S : List Value} {h : Hp} {b : Nat} : Run 35 1 L (.ref b :: S) h = (gf h 5 1 b).bind fun v => Run 35 4 L (v :: S) h := Rb rfl fun _ => rfl
theorem e35_4 {L : Lo} {S : List Value} {h : Hp} {x : Int32} : Run 35 4 L (.int x :: S) h = if x < 0 then Run 35 37 L S h else Run 35 7 L S h := Rbr (c := cnd .lt x 0 = true) (off := 33) rfl rfl cnd_lt
theorem e35_7 {L : Lo} {S : List Value} {h : Hp} {v : Nat} : Run 35 7 (some (.ref v) :: L) S h = Run 35 8 (some (.ref v) :: L) (.ref v :: S) h := Rg rfl
theorem e35_8 {L : Lo} {S : List Value} {h : Hp} {b : Nat} : Run 35 8 L (.ref b :: S) h = (gf h 5 1 b).bind fun v => Run 35 11 L (v :: S) h := Rb rfl fun _ => rfl
theorem e35_11 {L : Lo} {S : List Value} {h : Hp} : Run 35 11 L S h = Run 35 14 L (.int 150 :: S) h := Rg rfl
theorem e35_14 {L : Lo} {S : List Value} {h : Hp} {x z : Int32} : Run 35 14 L (.int z :: .int x :: S) h = if z ≤ x then Run 35 37 L S h else Run 35 17 L S h := Rbr (c := cnd .ge x z = true) (off := 23) rfl rfl cnd_ge
theorem e35_17 {L : Lo} {S : List Value} {h : Hp} {v : Nat} : Run 35 17 (some (.ref v) :: L) S h = Run 35 18 (some (.ref v) :: L) (.ref v :: S) h := Rg rfl
theorem e35_18 {L : Lo} {S : List Value} {h : Hp} {b : Nat} : Run 35 18 L (.ref b :: S) h = (gf h 5 0 b).bind fun v => Run 35 21 L (v :: S) h := Rb rfl fun _ => rfl
theorem e35_21 {L : Lo} {S : List Value} {h : Hp} {v : Nat} : Run 35 21 (some (.ref v) :: L) S h = Run 35 22 (some (.ref v) :: L) (.ref v :: S) h := Rg rfl
theorem e35_22 {L : Lo} {S : List Value} {h : Hp} {b : Nat} : Run 35 22 L (.ref b :: S) h = (gf h 5 1 b).bind fun v => Run 35 25 L (v :: S) h := Rb rfl fun _ => rfl
theorem e35_25 {L : Lo} {S : List Value} {h : Hp} {x0 : Option Value} {v : Int32} : Run 35 25 (x0 :: some (.int v) :: L) S h = Run 35 26 (x0 :: some (.int v) :: L) (.int v :: S) h := Rg rfl
theorem e35_26 {L : Lo} {S : List Value} {h : Hp} {v : Int32} {i : Int32} {b : Nat} : Run 35 26 L (.int v :: .int i :: .ref b :: S) h = (paI h b i v).bind fun h1 => Run 35 27 L S h1 := Rb rfl fun _ => rfl
theorem e35_27 {L : Lo} {S : List Value} {h : Hp} {v : Nat} : Run 35 27 (some (.ref v) :: L) S h = Run 35 28 (some (.ref v) :: L) (.ref v :: S) h := Rg rfl
theorem e35_28 {L : Lo} {S : List Value} {h : Hp} {v : Nat} : Run 35 28 L (.ref v :: S) h = Run 35 29 L (.ref v :: .ref v :: S) h := Rg rfl
theorem e35_29 {L : Lo} {S : List Value} {h : Hp} {b : Nat} : Run 35 29 L (.ref b :: S) h = (gf h 5 1 b).bind fun v => Run 35 32 L (v :: S) h := Rb rfl fun _ => rfl
theorem e35_32 {L : Lo} {S : List Value} {h : Hp} : Run 35 32 L S h = Run 35 33 L (.int 1 :: S) h := Rg rfl
theorem e35_33 {L : Lo} {S : List Value} {h : Hp} {x z : Int32} : Run 35 33 L (.int z :: .int x :: S) h = Run 35 34 L (.int (x + z) :: S) h := Rg rfl
theorem e35_34 {L : Lo} {S : List Value} {h : Hp} {b : Nat} {v : Value} : Run 35 34 L (v :: .ref b :: S) h = (pf h 5 1 b v).bind fun h1 => Run 35 37 L S h1 := Rb rfl fun _ => rfl
theorem e35_37 {L : Lo} {h : Hp} : Run 35 37 L [] h = some (.inl none, h) := Rd rfl
theorem e36_0 {L : Lo} {S : List Value} {h : Hp} {x0 : Option Value} {v : Int32} : Run 36 0 (x0 :: some (.int v) :: L) S h = Run 36 1 (x0 :: some (.int v) :: L) (.int v :: S) h := Rg rfl
theorem e36_1 {L : Lo} {S : List Value} {h : Hp} {x : Int32} : Run 36 1 L (.int x :: S) h = if x < 0 then Run 36 28 L S h else Run 36 4 L S h := Rbr (c := cnd .lt x 0 = true) (off := 27) rfl rfl cnd_lt
theorem e36_4 {L : Lo} {S : List Value} {h : Hp} {x0 : Option Value} {v : Int32} : Run 36 4 (x0 :: some (.int v) :: L) S h = Run 36 5 (x0 :: some (.int v) :: L) (.int v :: S) h := Rg rfl
theorem e36_5 {L : Lo} {S : List Value} {h : Hp} {v : Nat} : Run 36 5 (some (.ref v) :: L) S h = Run 36 6 (some (.ref v) :: L) (.ref v :: S) h := Rg rfl
theorem e36_6 {L : Lo} {S : List Value} {h : Hp} {b : Nat} : Run 36 6 L (.ref b :: S) h = (gf h 5 1 b).bind fun v => Run 36 9 L (v :: S) h := Rb rfl fun _ => rfl
theorem e36_9 {L : Lo} {S : List Value} {h : Hp} {x z : Int32} : Run 36 9 L (.int z :: .int x :: S) h = if z ≤ x then Run 36 28 L S h else Run 36 12 L S h := Rbr (c := cnd .ge x z = true) (off := 19) rfl rfl cnd_ge
theorem e36_12 {L : Lo} {S : List Value} {h : Hp} {x0 : Option Value} {v : Int32} : Run 36 12 (x0 :: some (.int v) :: L) S h = Run 36 13 (x0 :: some (.int v) :: L) (.int v :: S) h := Rg rfl
theorem e36_13 {L : Lo} {S : List Value} {h : Hp} : Run 36 13 L S h = Run 36 16 L (.int 150 :: S) h := Rg rfl
theorem e36_16 {L : Lo} {S : List Value} {h : Hp} {x z : Int32} : Run 36 16 L (.int z :: .int x :: S) h = if z ≤ x then Run 36 28 L S h else Run 36 19 L S h := Rbr (c := cnd .ge x z = true) (off := 12) rfl rfl cnd_ge
theorem e36_19 {L : Lo} {S : List Value} {h : Hp} {v : Nat} : Run 36 19 (some (.ref v) :: L) S h = Run 36 20 (some (.ref v) :: L) (.ref v :: S) h := Rg rfl
theorem e36_20 {L : Lo} {S : List Value} {h : Hp} {b : Nat} : Run 36 20 L (.ref b :: S) h = (gf h 5 0 b).bind fun v => Run 36 23 L (v :: S) h := Rb rfl fun _ => rfl
theorem e36_23 {L : Lo} {S : List Value} {h : Hp} {x0 : Option Value} {v : Int32} : Run 36 23 (x0 :: some (.int v) :: L) S h = Run 36 24 (x0 :: some (.int v) :: L) (.int v :: S) h := Rg rfl
theorem e36_24 {L : Lo} {S : List Value} {h : Hp} {i : Int32} {b : Nat} : Run 36 24 L (.int i :: .ref b :: S) h = (gaI h b i).bind fun v => Run 36 25 L (.int v :: S) h := Rb rfl fun _ => rfl
theorem e36_25 {L : Lo} {S : List Value} {h : Hp} : Run 36 25 L S h = Run 36 29 L S h := Rg rfl
theorem e36_28 {L : Lo} {S : List Value} {h : Hp} : Run 36 28 L S h = Run 36 29 L (.int (-1) :: S) h := Rg rfl
theorem e36_29 {L : Lo} {h : Hp} {x : Int32} : Run 36 29 L [.int x] h = some (.inl (some (.int x)), h) := Rd (if_pos (c := narrow .int (.int x) = .int x) rfl)
theorem e37_0 {L : Lo} {S : List Value} {h : Hp} : Run 37 0 L S h = Run 37 1 L (.int 0 :: S) h := Rg rfl
theorem e37_1 {L : Lo} {S : List Value} {h : Hp} {x0 : Option Value} {y : Option Value} {v : Int32} : Run 37 1 (x0 :: y :: L) (.int v :: S) h = Run 37 2 (ck x0 :: some (.int v) :: L) S h := Rg rfl
theorem e37_2 {L : Lo} {S : List Value} {h : Hp} : Run 37 2 L S h = Run 37 3 L (.int 0 :: S) h := Rg rfl
theorem e37_3 {L : Lo} {S : List Value} {h : Hp} {x0 x1 : Option Value} {y : Option Value} {v : Int32} : Run 37 3 (x0 :: x1 :: y :: L) (.int v :: S) h = Run 37 4 (x0 :: ck x1 :: some (.int v) :: L) S h := Rg rfl
theorem e37_4 {L : Lo} {S : List Value} {h : Hp} {x0 x1 : Option Value} {v : Int32} : Run 37 4 (x0 :: x1 :: some (.int v) :: L) S h = Run 37 5 (x0 :: x1 :: some (.int v) :: L) (.int v :: S) h := Rg rfl
theorem e37_5 {L : Lo} {S : List Value} {h : Hp} {v : Nat} : Run 37 5 (some (.ref v) :: L) S h = Run 37 6 (some (.ref v) :: L) (.ref v :: S) h := Rg rfl
theorem e37_6 {L : Lo} {S : List Value} {h : Hp} {b : Nat} : Run 37 6 L (.ref b :: S) h = (gf h 5 1 b).bind fun v => Run 37 9 L (v :: S) h := Rb rfl fun _ => rfl
theorem e37_9 {L : Lo} {S : List Value} {h : Hp} {x z : Int32} : Run 37 9 L (.int z :: .int x :: S) h = if z ≤ x then Run 37 35 L S h else Run 37 12 L S h := Rbr (c := cnd .ge x z = true) (off := 26) rfl rfl cnd_ge
theorem e37_12 {L : Lo} {S : List Value} {h : Hp} {x0 : Option Value} {v : Int32} : Run 37 12 (x0 :: some (.int v) :: L) S h = Run 37 13 (x0 :: some (.int v) :: L) (.int v :: S) h := Rg rfl
theorem e37_13 {L : Lo} {S : List Value} {h : Hp} {v : Nat} : Run 37 13 (some (.ref v) :: L) S h = Run 37 14 (some (.ref v) :: L) (.ref v :: S) h := Rg rfl
theorem e37_14 {L : Lo} {S : List Value} {h : Hp} {x0 x1 : Option Value} {v : Int32} : Run 37 14 (x0 :: x1 :: some (.int v) :: L) S h = Run 37 15 (x0 :: x1 :: some (.int v) :: L) (.int v :: S) h := Rg rfl
set_option maxRecDepth 100000 in
theorem e37_15 {L : Lo} {h : Hp} {a2 : Int32} {a1 : Nat} {a0 : Int32} (hO : isO h a1 5 = true) : Run 37 15 L [.int a2, .ref a1, .int a0] h = (Run 36 0 [some (.ref a1), some (.int a2)] [] h).bind fun o => aft 37 15 18 L [.int a0] o := Rcv (c := 36) (As := [.int a2]) (S' := [.int a0]) (pc' := 18) 5 rfl hO
set_option maxRecDepth 100000 in
theorem e37_18 {L : Lo} {h : Hp} {a1 : Int32} {a0 : Int32} : Run 37 18 L [.int a1, .int a0] h = (Run 38 0 [some (.int a0), some (.int a1)] [] h).bind fun o => aft 37 18 21 L [] o := Rc (c := 38) (As := [.int a0, .int a1]) (S' := []) (pc' := 21) rfl
theorem e37_21 {L : Lo} {S : List Value} {h : Hp} {x0 : Option Value} {y : Option Value} {v : Int32} : Run 37 21 (x0 :: y :: L) (.int v :: S) h = Run 37 22 (ck x0 :: some (.int v) :: L) S h := Rg rfl
theorem e37_22 {L : Lo} {S : List Value} {h : Hp} {x0 : Option Value} {v : Int32} : Run 37 22 (x0 :: some (.int v) :: L) S h = Run 37 23 (x0 :: some (.int v) :: L) (.int v :: S) h := Rg rfl
theorem e37_23 {L : Lo} {S : List Value} {h : Hp} : Run 37 23 L S h = Run 37 24 L (.int (-1) :: S) h := Rg rfl
theorem e37_24 {L : Lo} {S : List Value} {h : Hp} {x z : Int32} : Run 37 24 L (.int z :: .int x :: S) h = if x = z then Run 37 27 L S h else Run 37 29 L S h := RbrN (c := cnd .ne x z = true) (off := 5) rfl rfl cnd_ne
theorem e37_27 {L : Lo} {S : List Value} {h : Hp} {x0 x1 : Option Value} {v : Int32} : Run 37 27 (x0 :: x1 :: some (.int v) :: L) S h = Run 37 28 (x0 :: x1 :: some (.int v) :: L) (.int v :: S) h := Rg rfl
theorem e37_28 {L : Lo} {h : Hp} {x : Int32} : Run 37 28 L [.int x] h = some (.inl (some (.int x)), h) := Rd (if_pos (c := narrow .int (.int x) = .int x) rfl)
theorem e37_29 {L : Lo} {S : List Value} {h : Hp} {x0 x1 : Option Value} {v : Int32} : Run 37 29 (x0 :: x1 :: some (.int v) :: L) S h = Run 37 32 (x0 :: x1 :: some (.int (v + 1)) :: L) S h := Rg rfl
theorem e37_32 {L : Lo} {S : List Value} {h : Hp} : Run 37 32 L S h = Run 37 4 L S h := Rg rfl
theorem e37_35 {L : Lo} {S : List Value} {h : Hp} {x0 : Option Value} {v : Int32} : Run 37 35 (x0 :: some (.int v) :: L) S h = Run 37 36 (x0 :: some (.int v) :: L) (.int v :: S) h := Rg rfl
theorem e37_36 {L : Lo} {S : List Value} {h : Hp} {x : Int32} : Run 37 36 L (.int x :: S) h = if x = 0 then Run 37 39 L S h else Run 37 43 L S h := RbrN (c := cnd .ne x 0 = true) (off := 7) rfl rfl cnd_ne
theorem e37_39 {L : Lo} {S : List Value} {h : Hp} : Run 37 39 L S h = Run 37 40 L (.int (-1) :: S) h := Rg rfl
theorem e37_40 {L : Lo} {S : List Value} {h : Hp} : Run 37 40 L S h = Run 37 47 L S h := Rg rfl
theorem e37_43 {L : Lo} {S : List Value} {h : Hp} {v : Nat} : Run 37 43 (some (.ref v) :: L) S h = Run 37 44 (some (.ref v) :: L) (.ref v :: S) h := Rg rfl
theorem e37_44 {L : Lo} {S : List Value} {h : Hp} {b : Nat} : Run 37 44 L (.ref b :: S) h = (gf h 5 1 b).bind fun v => Run 37 47 L (v :: S) h := Rb rfl fun _ => rfl
theorem e37_47 {L : Lo} {h : Hp} {x : Int32} : Run 37 47 L [.int x] h = some (.inl (some (.int x)), h) := Rd (if_pos (c := narrow .int (.int x) = .int x) rfl)
theorem e38_0 {L : Lo} {S : List Value} {h : Hp} {v : Int32} : Run 38 0 (some (.int v) :: L) S h = Run 38 1 (some (.int v) :: L) (.int v :: S) h := Rg rfl
theorem e38_1_0 {L : Lo} {S : List Value} {h : Hp} : Run 38 1 L (.int 0 :: S) h = Run 38 28 L S h := Rg rfl
theorem e38_1_1 {L : Lo} {S : List Value} {h : Hp} : Run 38 1 L (.int 1 :: S) h = Run 38 33 L S h := Rg rfl
theorem e38_1_2 {L : Lo} {S : List Value} {h : Hp} : Run 38 1 L (.int 2 :: S) h = Run 38 57 L S h := Rg rfl
theorem e38_1_d {L : Lo} {S : List Value} {h : Hp} {x : Int32} (hx : x.toInt < 0 ∨ 2 < x.toInt) : Run 38 1 L (.int x :: S) h = Run 38 75 L S h := Rg (if_pos hx)
theorem e38_28 {L : Lo} {S : List Value} {h : Hp} {x0 : Option Value} {v : Int32} : Run 38 28 (x0 :: some (.int v) :: L) S h = Run 38 29 (x0 :: some (.int v) :: L) (.int v :: S) h := Rg rfl
set_option maxRecDepth 100000 in
theorem e38_29 {L : Lo} {h : Hp} {a0 : Int32} : Run 38 29 L [.int a0] h = (Run 39 0 [some (.int a0)] [] h).bind fun o => aft 38 29 32 L [] o := Rc (c := 39) (As := [.int a0]) (S' := []) (pc' := 32) rfl
theorem e38_32 {L : Lo} {h : Hp} {x : Int32} : Run 38 32 L [.int x] h = some (.inl (some (.int x)), h) := Rd (if_pos (c := narrow .int (.int x) = .int x) rfl)
theorem e38_33 {L : Lo} {S : List Value} {h : Hp} {x0 : Option Value} {v : Int32} : Run 38 33 (x0 :: some (.int v) :: L) S h = Run 38 34 (x0 :: some (.int v) :: L) (.int v :: S) h := Rg rfl
theorem e38_34 {L : Lo} {S : List Value} {h : Hp} : Run 38 34 L S h = Run 38 36 L (.int 97 :: S) h := Rg rfl
theorem e38_36 {L : Lo} {S : List Value} {h : Hp} {x z : Int32} : Run 38 36 L (.int z :: .int x :: S) h = if x = z then Run 38 51 L S h else Run 38 39 L S h := Rbr (c := cnd .eq x z = true) (off := 15) rfl rfl cnd_eq
theorem e38_39 {L : Lo} {S : List Value} {h : Hp} {x0 : Option Value} {v : Int32} : Run 38 39 (x0 :: some (.int v) :: L) S h = Run 38 40 (x0 :: some (.int v) :: L) (.int v :: S) h := Rg rfl
theorem e38_40 {L : Lo} {S : List Value} {h : Hp} : Run 38 40 L S h = Run 38 42 L (.int 108 :: S) h := Rg rfl
theorem e38_42 {L : Lo} {S : List Value} {h : Hp} {x z : Int32} : Run 38 42 L (.int z :: .int x :: S) h = if x = z then Run 38 51 L S h else Run 38 45 L S h := Rbr (c := cnd .eq x z = true) (off := 9) rfl rfl cnd_eq
theorem e38_45 {L : Lo} {S : List Value} {h : Hp} {x0 : Option Value} {v : Int32} : Run 38 45 (x0 :: some (.int v) :: L) S h = Run 38 46 (x0 :: some (.int v) :: L) (.int v :: S) h := Rg rfl
theorem e38_46 {L : Lo} {S : List Value} {h : Hp} : Run 38 46 L S h = Run 38 48 L (.int 114 :: S) h := Rg rfl
theorem e38_48 {L : Lo} {S : List Value} {h : Hp} {x z : Int32} : Run 38 48 L (.int z :: .int x :: S) h = if x = z then Run 38 51 L S h else Run 38 55 L S h := RbrN (c := cnd .ne x z = true) (off := 7) rfl rfl cnd_ne
theorem e38_51 {L : Lo} {S : List Value} {h : Hp} : Run 38 51 L S h = Run 38 52 L (.int 3 :: S) h := Rg rfl
theorem e38_52 {L : Lo} {S : List Value} {h : Hp} : Run 38 52 L S h = Run 38 56 L S h := Rg rfl
theorem e38_55 {L : Lo} {S : List Value} {h : Hp} : Run 38 55 L S h = Run 38 56 L (.int (-1) :: S) h := Rg rfl
theorem e38_56 {L : Lo} {h : Hp} {x : Int32} : Run 38 56 L [.int x] h = some (.inl (some (.int x)), h) := Rd (if_pos (c := narrow .int (.int x) = .int x) rfl)
theorem e38_57 {L : Lo} {S : List Value} {h : Hp} {x0 : Option Value} {v : Int32} : Run 38 57 (x0 :: some (.int v) :: L) S h = Run 38 58 (x0 :: some (.int v) :: L) (.int v :: S) h := Rg rfl
theorem e38_58 {L : Lo} {S : List Value} {h : Hp} : Run 38 58 L S h = Run 38 60 L (.int 48 :: S) h := Rg rfl
theorem e38_60 {L : Lo} {S : List Value} {h : Hp} {x z : Int32} : Run 38 60 L (.int z :: .int x :: S) h = if x < z then Run 38 73 L S h else Run 38 63 L S h := Rbr (c := cnd .lt x z = true) (off := 13) rfl rfl cnd_lt
theorem e38_63 {L : Lo} {S : List Value} {h : Hp} {x0 : Option Value} {v : Int32} : Run 38 63 (x0 :: some (.int v) :: L) S h = Run 38 64 (x0 :: some (.int v) :: L) (.int v :: S) h := Rg rfl
theorem e38_64 {L : Lo} {S : List Value} {h : Hp} : Run 38 64 L S h = Run 38 66 L (.int 53 :: S) h := Rg rfl
theorem e38_66 {L : Lo} {S : List Value} {h : Hp} {x z : Int32} : Run 38 66 L (.int z :: .int x :: S) h = if z < x then Run 38 73 L S h else Run 38 69 L S h := Rbr (c := cnd .gt x z = true) (off := 7) rfl rfl cnd_gt
theorem e38_69 {L : Lo} {S : List Value} {h : Hp} : Run 38 69 L S h = Run 38 70 L (.int 3 :: S) h := Rg rfl
theorem e38_70 {L : Lo} {S : List Value} {h : Hp} : Run 38 70 L S h = Run 38 74 L S h := Rg rfl
theorem e38_73 {L : Lo} {S : List Value} {h : Hp} : Run 38 73 L S h = Run 38 74 L (.int (-1) :: S) h := Rg rfl
theorem e38_74 {L : Lo} {h : Hp} {x : Int32} : Run 38 74 L [.int x] h = some (.inl (some (.int x)), h) := Rd (if_pos (c := narrow .int (.int x) = .int x) rfl)
theorem e38_75 {L : Lo} {S : List Value} {h : Hp} {x0 : Option Value} {v : Int32} : Run 38 75 (x0 :: some (.int v) :: L) S h = Run 38 76 (x0 :: some (.int v) :: L) (.int v :: S) h := Rg rfl
theorem e38_76 {L : Lo} {S : List Value} {h : Hp} : Run 38 76 L S h = Run 38 78 L (.int 59 :: S) h := Rg rfl
theorem e38_78 {L : Lo} {S : List Value} {h : Hp} {x z : Int32} : Run 38 78 L (.int z :: .int x :: S) h = if x = z then Run 38 81 L S h else Run 38 85 L S h := RbrN (c := cnd .ne x z = true) (off := 7) rfl rfl cnd_ne
theorem e38_81 {L : Lo} {S : List Value} {h : Hp} : Run 38 81 L S h = Run 38 82 L (.int 0 :: S) h := Rg rfl
theorem e38_82 {L : Lo} {S : List Value} {h : Hp} : Run 38 82 L S h = Run 38 86 L S h := Rg rfl
theorem e38_85 {L : Lo} {S : List Value} {h : Hp} : Run 38 85 L S h = Run 38 86 L (.int (-1) :: S) h := Rg rfl
theorem e38_86 {L : Lo} {h : Hp} {x : Int32} : Run 38 86 L [.int x] h = some (.inl (some (.int x)), h) := Rd (if_pos (c := narrow .int (.int x) = .int x) rfl)
theorem e39_0 {L : Lo} {S : List Value} {h : Hp} {v : Int32} : Run 39 0 (some (.int v) :: L) S h = Run 39 1 (some (.int v) :: L) (.int v :: S) h := Rg rfl
theorem e39_1 {L : Lo} {S : List Value} {h : Hp} : Run 39 1 L S h = Run 39 3 L (.int 48 :: S) h := Rg rfl
theorem e39_3 {L : Lo} {S : List Value} {h : Hp} {x z : Int32} : Run 39 3 L (.int z :: .int x :: S) h = if x < z then Run 39 14 L S h else Run 39 6 L S h := Rbr (c := cnd .lt x z = true) (off := 11) rfl rfl cnd_lt
theorem e39_6 {L : Lo} {S : List Value} {h : Hp} {v : Int32} : Run 39 6 (some (.int v) :: L) S h = Run 39 7 (some (.int v) :: L) (.int v :: S) h := Rg rfl
theorem e39_7 {L : Lo} {S : List Value} {h : Hp} : Run 39 7 L S h = Run 39 9 L (.int 57 :: S) h := Rg rfl
theorem e39_9 {L : Lo} {S : List Value} {h : Hp} {x z : Int32} : Run 39 9 L (.int z :: .int x :: S) h = if z < x then Run 39 14 L S h else Run 39 12 L S h := Rbr (c := cnd .gt x z = true) (off := 5) rfl rfl cnd_gt
theorem e39_12 {L : Lo} {S : List Value} {h : Hp} : Run 39 12 L S h = Run 39 13 L (.int 1 :: S) h := Rg rfl
theorem e39_13 {L : Lo} {h : Hp} {x : Int32} : Run 39 13 L [.int x] h = some (.inl (some (.int x)), h) := Rd (if_pos (c := narrow .int (.int x) = .int x) rfl)
theorem e39_14 {L : Lo} {S : List Value} {h : Hp} {v : Int32} : Run 39 14 (some (.int v) :: L) S h = Run 39 15 (some (.int v) :: L) (.int v :: S) h := Rg rfl
theorem e39_15 {L : Lo} {S : List Value} {h : Hp} : Run 39 15 L S h = Run 39 17 L (.int 119 :: S) h := Rg rfl
theorem e39_17 {L : Lo} {S : List Value} {h : Hp} {x z : Int32} : Run 39 17 L (.int z :: .int x :: S) h = if x = z then Run 39 20 L S h else Run 39 22 L S h := RbrN (c := cnd .ne x z = true) (off := 5) rfl rfl cnd_ne
theorem e39_20 {L : Lo} {S : List Value} {h : Hp} : Run 39 20 L S h = Run 39 21 L (.int 2 :: S) h := Rg rfl
theorem e39_21 {L : Lo} {h : Hp} {x : Int32} : Run 39 21 L [.int x] h = some (.inl (some (.int x)), h) := Rd (if_pos (c := narrow .int (.int x) = .int x) rfl)
theorem e39_22 {L : Lo} {S : List Value} {h : Hp} {v : Int32} : Run 39 22 (some (.int v) :: L) S h = Run 39 23 (some (.int v) :: L) (.int v :: S) h := Rg rfl
theorem e39_23 {L : Lo} {S : List Value} {h : Hp} : Run 39 23 L S h = Run 39 25 L (.int 101 :: S) h := Rg rfl
theorem e39_25 {L : Lo} {S : List Value} {h : Hp} {x z : Int32} : Run 39 25 L (.int z :: .int x :: S) h = if x = z then Run 39 28 L S h else Run 39 32 L S h := RbrN (c := cnd .ne x z = true) (off := 7) rfl rfl cnd_ne
theorem e39_28 {L : Lo} {S : List Value} {h : Hp} : Run 39 28 L S h = Run 39 29 L (.int 3 :: S) h := Rg rfl
theorem e39_29 {L : Lo} {S : List Value} {h : Hp} : Run 39 29 L S h = Run 39 33 L S h := Rg rfl
theorem e39_32 {L : Lo} {S : List Value} {h : Hp} : Run 39 32 L S h = Run 39 33 L (.int (-1) :: S) h := Rg rfl
theorem e39_33 {L : Lo} {h : Hp} {x : Int32} : Run 39 33 L [.int x] h = some (.inl (some (.int x)), h) := Rd (if_pos (c := narrow .int (.int x) = .int x) rfl)
theorem e40_0 {L : Lo} {S : List Value} {h : Hp} {v : Nat} : Run 40 0 (some (.ref v) :: L) S h = Run 40 1 (some (.ref v) :: L) (.ref v :: S) h := Rg rfl
theorem e40_1 {L : Lo} {h : Hp} {a0 : Nat} : Run 40 1 L [.ref a0] h = Run 40 4 L [] h := Rg rfl
theorem e40_4 {L : Lo} {S : List Value} {h : Hp} {v : Nat} : Run 40 4 (some (.ref v) :: L) S h = Run 40 5 (some (.ref v) :: L) (.ref v :: S) h := Rg rfl
theorem e40_5 {L : Lo} {S : List Value} {h : Hp} : Run 40 5 L S h = Run 40 8 L (.int 144 :: S) h := Rg rfl
theorem e40_8 {L : Lo} {S : List Value} {h : Hp} {N : Int32} (hN : ¬ N < 0 ∧ N.toNatClampNeg ≤ 60000) : Run 40 8 L (.int N :: S) h = Run 40 10 L (.ref h.1 :: S) (hnew h (blank0 0 N.toNatClampNeg) N.toNatClampNeg) := Rg (if_pos hN)
theorem e40_10 {L : Lo} {S : List Value} {h : Hp} {b : Nat} {v : Value} : Run 40 10 L (v :: .ref b :: S) h = (pf h 6 6 b v).bind fun h1 => Run 40 13 L S h1 := Rb rfl fun _ => rfl
theorem e40_13 {L : Lo} {S : List Value} {h : Hp} {v : Nat} : Run 40 13 (some (.ref v) :: L) S h = Run 40 14 (some (.ref v) :: L) (.ref v :: S) h := Rg rfl
theorem e40_14 {L : Lo} {S : List Value} {h : Hp} : Run 40 14 L S h = Run 40 16 L (.int 8 :: S) h := Rg rfl
theorem e40_16 {L : Lo} {S : List Value} {h : Hp} {N : Int32} (hN : ¬ N < 0 ∧ N.toNatClampNeg ≤ 60000) : Run 40 16 L (.int N :: S) h = Run 40 19 L (.ref h.1 :: S) (hnew h (blank0 1 N.toNatClampNeg) N.toNatClampNeg) := Rg (if_pos hN)
theorem e40_19 {L : Lo} {S : List Value} {h : Hp} {b : Nat} {v : Value} : Run 40 19 L (v :: .ref b :: S) h = (pf h 6 7 b v).bind fun h1 => Run 40 22 L S h1 := Rb rfl fun _ => rfl
theorem e40_22 {L : Lo} {S : List Value} {h : Hp} : Run 40 22 L S h = Run 40 23 L (.int 0 :: S) h := Rg rfl
theorem e40_23 {L : Lo} {S : List Value} {h : Hp} {x0 : Option Value} {y : Option Value} {v : Int32} : Run 40 23 (x0 :: y :: L) (.int v :: S) h = Run 40 24 (ck x0 :: some (.int v) :: L) S h := Rg rfl
theorem e40_24 {L : Lo} {S : List Value} {h : Hp} {x0 : Option Value} {v : Int32} : Run 40 24 (x0 :: some (.int v) :: L) S h = Run 40 25 (x0 :: some (.int v) :: L) (.int v :: S) h := Rg rfl
theorem e40_25 {L : Lo} {S : List Value} {h : Hp} : Run 40 25 L S h = Run 40 27 L (.int 8 :: S) h := Rg rfl
theorem e40_27 {L : Lo} {S : List Value} {h : Hp} {x z : Int32} : Run 40 27 L (.int z :: .int x :: S) h = if z ≤ x then Run 40 49 L S h else Run 40 30 L S h := Rbr (c := cnd .ge x z = true) (off := 22) rfl rfl cnd_ge
theorem e40_30 {L : Lo} {S : List Value} {h : Hp} {v : Nat} : Run 40 30 (some (.ref v) :: L) S h = Run 40 31 (some (.ref v) :: L) (.ref v :: S) h := Rg rfl
theorem e40_31 {L : Lo} {S : List Value} {h : Hp} {b : Nat} : Run 40 31 L (.ref b :: S) h = (gf h 6 7 b).bind fun v => Run 40 34 L (v :: S) h := Rb rfl fun _ => rfl
theorem e40_34 {L : Lo} {S : List Value} {h : Hp} {x0 : Option Value} {v : Int32} : Run 40 34 (x0 :: some (.int v) :: L) S h = Run 40 35 (x0 :: some (.int v) :: L) (.int v :: S) h := Rg rfl
theorem e40_35 {L : Lo} {S : List Value} {h : Hp} : Run 40 35 L S h = Run 40 38 L (.ref h.1 :: S) (hnew h (blankO 7) 15) := Rg rfl
theorem e40_38 {L : Lo} {S : List Value} {h : Hp} {v : Nat} : Run 40 38 L (.ref v :: S) h = Run 40 39 L (.ref v :: .ref v :: S) h := Rg rfl
set_option maxRecDepth 100000 in
theorem e40_39 {L : Lo} {h : Hp} {a3 : Nat} {a2 : Nat} {a1 : Int32} {a0 : Nat} : Run 40 39 L [.ref a3, .ref a2, .int a1, .ref a0] h = (Run 70 0 [some (.ref a3)] [] h).bind fun o => aft 40 39 42 L [.ref a2, .int a1, .ref a0] o := Rc (c := 70) (As := [.ref a3]) (S' := [.ref a2, .int a1, .ref a0]) (pc' := 42) rfl
theorem e40_42 {L : Lo} {S : List Value} {h : Hp} {v : Nat} {i : Int32} {b : Nat} : Run 40 42 L (.ref v :: .int i :: .ref b :: S) h = (paR h b i v).bind fun h1 => Run 40 43 L S h1 := Rb rfl fun _ => rfl
theorem e40_43 {L : Lo} {S : List Value} {h : Hp} {x0 : Option Value} {v : Int32} : Run 40 43 (x0 :: some (.int v) :: L) S h = Run 40 46 (x0 :: some (.int (v + 1)) :: L) S h := Rg rfl
theorem e40_46 {L : Lo} {S : List Value} {h : Hp} : Run 40 46 L S h = Run 40 24 L S h := Rg rfl
theorem e40_49 {L : Lo} {S : List Value} {h : Hp} {v : Nat} : Run 40 49 (some (.ref v) :: L) S h = Run 40 50 (some (.ref v) :: L) (.ref v :: S) h := Rg rfl
theorem e40_50 {L : Lo} {S : List Value} {h : Hp} : Run 40 50 L S h = Run 40 52 L (.int 10 :: S) h := Rg rfl
theorem e40_52 {L : Lo} {S : List Value} {h : Hp} : Run 40 52 L S h = Run 40 54 L (.int 8 :: S) h := Rg rfl
set_option maxRecDepth 100000 in
theorem e40_54 {L : Lo} {h : Hp} {a2 : Int32} {a1 : Int32} {a0 : Nat} (hO : isO h a0 6 = true) : Run 40 54 L [.int a2, .int a1, .ref a0] h = (Run 41 0 [some (.ref a0), some (.int a1), some (.int a2)] [] h).bind fun o => aft 40 54 57 L [] o := Rcv (c := 41) (As := [.int a1, .int a2]) (S' := []) (pc' := 57) 6 rfl hO
theorem e40_57 {L : Lo} {h : Hp} : Run 40 57 L [] h = some (.inl none, h) := Rd rfl
theorem e41_0 {L : Lo} {S : List Value} {h : Hp} {v : Nat} : Run 41 0 (some (.ref v) :: L) S h = Run 41 1 (some (.ref v) :: L) (.ref v :: S) h := Rg rfl
theorem e41_1 {L : Lo} {S : List Value} {h : Hp} {x0 : Option Value} {v : Int32} : Run 41 1 (x0 :: some (.int v) :: L) S h = Run 41 2 (x0 :: some (.int v) :: L) (.int v :: S) h := Rg rfl
theorem e41_2 {L : Lo} {S : List Value} {h : Hp} {b : Nat} {v : Value} : Run 41 2 L (v :: .ref b :: S) h = (pf h 6 0 b v).bind fun h1 => Run 41 5 L S h1 := Rb rfl fun _ => rfl
theorem e41_5 {L : Lo} {S : List Value} {h : Hp} {v : Nat} : Run 41 5 (some (.ref v) :: L) S h = Run 41 6 (some (.ref v) :: L) (.ref v :: S) h := Rg rfl
theorem e41_6 {L : Lo} {S : List Value} {h : Hp} {x0 x1 : Option Value} {v : Int32} : Run 41 6 (x0 :: x1 :: some (.int v) :: L) S h = Run 41 7 (x0 :: x1 :: some (.int v) :: L) (.int v :: S) h := Rg rfl
theorem e41_7 {L : Lo} {S : List Value} {h : Hp} {b : Nat} {v : Value} : Run 41 7 L (v :: .ref b :: S) h = (pf h 6 1 b v).bind fun h1 => Run 41 10 L S h1 := Rb rfl fun _ => rfl
theorem e41_10 {L : Lo} {S : List Value} {h : Hp} {v : Nat} : Run 41 10 (some (.ref v) :: L) S h = Run 41 11 (some (.ref v) :: L) (.ref v :: S) h := Rg rfl
theorem e41_11 {L : Lo} {S : List Value} {h : Hp} : Run 41 11 L S h = Run 41 12 L (.int 0 :: S) h := Rg rfl
theorem e41_12 {L : Lo} {S : List Value} {h : Hp} {b : Nat} {v : Value} : Run 41 12 L (v :: .ref b :: S) h = (pf h 6 2 b v).bind fun h1 => Run 41 15 L S h1 := Rb rfl fun _ => rfl
theorem e41_15 {L : Lo} {S : List Value} {h : Hp} {v : Nat} : Run 41 15 (some (.ref v) :: L) S h = Run 41 16 (some (.ref v) :: L) (.ref v :: S) h := Rg rfl
theorem e41_16 {L : Lo} {S : List Value} {h : Hp} : Run 41 16 L S h = Run 41 17 L (.int 2 :: S) h := Rg rfl
theorem e41_17 {L : Lo} {S : List Value} {h : Hp} {b : Nat} {v : Value} : Run 41 17 L (v :: .ref b :: S) h = (pf h 6 3 b v).bind fun h1 => Run 41 20 L S h1 := Rb rfl fun _ => rfl
theorem e41_20 {L : Lo} {S : List Value} {h : Hp} {v : Nat} : Run 41 20 (some (.ref v) :: L) S h = Run 41 21 (some (.ref v) :: L) (.ref v :: S) h := Rg rfl
theorem e41_21 {L : Lo} {S : List Value} {h : Hp} : Run 41 21 L S h = Run 41 22 L (.int 1 :: S) h := Rg rfl
theorem e41_22 {L : Lo} {S : List Value} {h : Hp} {b : Nat} {v : Value} : Run 41 22 L (v :: .ref b :: S) h = (pf h 6 4 b v).bind fun h1 => Run 41 25 L S h1 := Rb rfl fun _ => rfl
theorem e41_25 {L : Lo} {S : List Value} {h : Hp} {v : Nat} : Run 41 25 (some (.ref v) :: L) S h = Run 41 26 (some (.ref v) :: L) (.ref v :: S) h := Rg rfl
theorem e41_26 {L : Lo} {S : List Value} {h : Hp} : Run 41 26 L S h = Run 41 27 L (.int 0 :: S) h := Rg rfl
theorem e41_27 {L : Lo} {S : List Value} {h : Hp} {b : Nat} {v : Value} : Run 41 27 L (v :: .ref b :: S) h = (pf h 6 5 b v).bind fun h1 => Run 41 30 L S h1 := Rb rfl fun _ => rfl
theorem e41_30 {L : Lo} {S : List Value} {h : Hp} {v : Nat} : Run 41 30 (some (.ref v) :: L) S h = Run 41 31 (some (.ref v) :: L) (.ref v :: S) h := Rg rfl
theorem e41_31 {L : Lo} {S : List Value} {h : Hp} {b : Nat} : Run 41 31 L (.ref b :: S) h = (gf h 6 6 b).bind fun v => Run 41 34 L (v :: S) h := Rb rfl fun _ => rfl
theorem e41_34 {L : Lo} {S : List Value} {h : Hp} : Run 41 34 L S h = Run 41 35 L (.int 0 :: S) h := Rg rfl
set_option maxRecDepth 100000 in
theorem e41_35 {L : Lo} {h : Hp} {a1 : Int32} {a0 : Nat} : Run 41 35 L [.int a1, .ref a0] h = (Run 118 0 [some (.ref a0), some (.int a1), none, none] [] h).bind fun o => aft 41 35 38 L [] o := Rc (c := 118) (As := [.ref a0, .int a1]) (S' := []) (pc' := 38) rfl
theorem e41_38 {L : Lo} {h : Hp} : Run 41 38 L [] h = some (.inl none, h) := Rd rfl
theorem e42_0 {L : Lo} {S : List Value} {h : Hp} {v : Nat} : Run 42 0 (some (.ref v) :: L) S h = Run 42 1 (some (.ref v) :: L) (.ref v :: S) h := Rg rfl
theorem e42_1 {L : Lo} {S : List Value} {h : Hp} {x0 : Option Value} {v : Nat} : Run 42 1 (x0 :: some (.ref v) :: L) S h = Run 42 2 (x0 :: some (.ref v) :: L) (.ref v :: S) h := Rg rfl
theorem e42_2 {L : Lo} {S : List Value} {h : Hp} {b : Nat} : Run 42 2 L (.ref b :: S) h = (gf h 6 0 b).bind fun v => Run 42 5 L (v :: S) h := Rb rfl fun _ => rfl
theorem e42_5 {L : Lo} {S : List Value} {h : Hp} {b : Nat} {v : Value} : Run 42 5 L (v :: .ref b :: S) h = (pf h 6 0 b v).bind fun h1 => Run 42 8 L S h1 := Rb rfl fun _ => rfl
theorem e42_8 {L : Lo} {S : List Value} {h : Hp} {v : Nat} : Run 42 8 (some (.ref v) :: L) S h = Run 42 9 (some (.ref v) :: L) (.ref v :: S) h := Rg rfl
theorem e42_9 {L : Lo} {S : List Value} {h : Hp} {x0 : Option Value} {v : Nat} : Run 42 9 (x0 :: some (.ref v) :: L) S h = Run 42 10 (x0 :: some (.ref v) :: L) (.ref v :: S) h := Rg rfl
theorem e42_10 {L : Lo} {S : List Value} {h : Hp} {b : Nat} : Run 42 10 L (.ref b :: S) h = (gf h 6 1 b).bind fun v => Run 42 13 L (v :: S) h := Rb rfl fun _ => rfl
theorem e42_13 {L : Lo} {S : List Value} {h : Hp} {b : Nat} {v : Value} : Run 42 13 L (v :: .ref b :: S) h = (pf h 6 1 b v).bind fun h1 => Run 42 16 L S h1 := Rb rfl fun _ => rfl
theorem e42_16 {L : Lo} {S : List Value} {h : Hp} {v : Nat} : Run 42 16 (some (.ref v) :: L) S h = Run 42 17 (some (.ref v) :: L) (.ref v :: S) h := Rg rfl
theorem e42_17 {L : Lo} {S : List Value} {h : Hp} {x0 : Option Value} {v : Nat} : Run 42 17 (x0 :: some (.ref v) :: L) S h = Run 42 18 (x0 :: some (.ref v) :: L) (.ref v :: S) h := Rg rfl
theorem e42_18 {L : Lo} {S : List Value} {h : Hp} {b : Nat} : Run 42 18 L (.ref b :: S) h = (gf h 6 2 b).bind fun v => Run 42 21 L (v :: S) h := Rb rfl fun _ => rfl
theorem e42_21 {L : Lo} {S : List Value} {h : Hp} {b : Nat} {v : Value} : Run 42 21 L (v :: .ref b :: S) h = (pf h 6 2 b v).bind fun h1 => Run 42 24 L S h1 := Rb rfl fun _ => rfl
theorem e42_24 {L : Lo} {S : List Value} {h : Hp} {v : Nat} : Run 42 24 (some (.ref v) :: L) S h = Run 42 25 (some (.ref v) :: L) (.ref v :: S) h := Rg rfl
theorem e42_25 {L : Lo} {S : List Value} {h : Hp} {x0 : Option Value} {v : Nat} : Run 42 25 (x0 :: some (.ref v) :: L) S h = Run 42 26 (x0 :: some (.ref v) :: L) (.ref v :: S) h := Rg rfl
theorem e42_26 {L : Lo} {S : List Value} {h : Hp} {b : Nat} : Run 42 26 L (.ref b :: S) h = (gf h 6 3 b).bind fun v => Run 42 29 L (v :: S) h := Rb rfl fun _ => rfl
theorem e42_29 {L : Lo} {S : List Value} {h : Hp} {b : Nat} {v : Value} : Run 42 29 L (v :: .ref b :: S) h = (pf h 6 3 b v).bind fun h1 => Run 42 32 L S h1 := Rb rfl fun _ => rfl
theorem e42_32 {L : Lo} {S : List Value} {h : Hp} {v : Nat} : Run 42 32 (some (.ref v) :: L) S h = Run 42 33 (some (.ref v) :: L) (.ref v :: S) h := Rg rfl
theorem e42_33 {L : Lo} {S : List Value} {h : Hp} {x0 : Option Value} {v : Nat} : Run 42 33 (x0 :: some (.ref v) :: L) S h = Run 42 34 (x0 :: some (.ref v) :: L) (.ref v :: S) h := Rg rfl
theorem e42_34 {L : Lo} {S : List Value} {h : Hp} {b : Nat} : Run 42 34 L (.ref b :: S) h = (gf h 6 4 b).bind fun v => Run 42 37 L (v :: S) h := Rb rfl fun _ => rfl
theorem e42_37 {L : Lo} {S : List Value} {h : Hp} {b : Nat} {v : Value} : Run 42 37 L (v :: .ref b :: S) h = (pf h 6 4 b v).bind fun h1 => Run 42 40 L S h1 := Rb rfl fun _ => rfl
theorem e42_40 {L : Lo} {S : List Value} {h : Hp} {v : Nat} : Run 42 40 (some (.ref v) :: L) S h = Run 42 41 (some (.ref v) :: L) (.ref v :: S) h := Rg rfl
theorem e42_41 {L : Lo} {S : List Value} {h : Hp} {x0 : Option Value} {v : Nat} : Run 42 41 (x0 :: some (.ref v) :: L) S h = Run 42 42 (x0 :: some (.ref v) :: L) (.ref v :: S) h := Rg rfl
theorem e42_42 {L : Lo} {S : List Value} {h : Hp} {b : Nat} : Run 42 42 L (.ref b :: S) h = (gf h 6 5 b).bind fun v => Run 42 45 L (v :: S) h := Rb rfl fun _ => rfl
theorem e42_45 {L : Lo} {S : List Value} {h : Hp} {b : Nat} {v : Value} : Run 42 45 L (v :: .ref b :: S) h = (pf h 6 5 b v).bind fun h1 => Run 42 48 L S h1 := Rb rfl fun _ => rfl
theorem e42_48 {L : Lo} {S : List Value} {h : Hp} {x0 : Option Value} {v : Nat} : Run 42 48 (x0 :: some (.ref v) :: L) S h = Run 42 49 (x0 :: some (.ref v) :: L) (.ref v :: S) h := Rg rfl
theorem e42_49 {L : Lo} {S : List Value} {h : Hp} {b : Nat} : Run 42 49 L (.ref b :: S) h = (gf h 6 6 b).bind fun v => Run 42 52 L (v :: S) h := Rb rfl fun _ => rfl
theorem e42_52 {L : Lo} {S : List Value} {h : Hp} : Run 42 52 L S h = Run 42 53 L (.int 0 :: S) h := Rg rfl
theorem e42_53 {L : Lo} {S : List Value} {h : Hp} {v : Nat} : Run 42 53 (some (.ref v) :: L) S h = Run 42 54 (some (.ref v) :: L) (.ref v :: S) h := Rg rfl
theorem e42_54 {L : Lo} {S : List Value} {h : Hp} {b : Nat} : Run 42 54 L (.ref b :: S) h = (gf h 6 6 b).bind fun v => Run 42 57 L (v :: S) h := Rb rfl fun _ => rfl
theorem e42_57 {L : Lo} {S : List Value} {h : Hp} : Run 42 57 L S h = Run 42 58 L (.int 0 :: S) h := Rg rfl
theorem e42_58 {L : Lo} {S : List Value} {h : Hp} : Run 42 58 L S h = Run 42 61 L (.int 144 :: S) h := Rg rfl
theorem e42_61 {L : Lo} {h : Hp} {a4 : Int32} {a3 : Int32} {a2 : Nat} {a1 : Int32} {a0 : Nat} : Run 42 61 L [.int a4, .int a3, .ref a2, .int a1, .ref a0] h = (cpI h a0 a1 a2 a3 a4).bind fun h1 => Run 42 64 L [] h1 := Rb rfl fun _ => rfl
theorem e42_64 {L : Lo} {S : List Value} {h : Hp} : Run 42 64 L S h = Run 42 65 L (.int 0 :: S) h := Rg rfl
theorem e42_65 {L : Lo} {S : List Value} {h : Hp} {x0 x1 : Option Value} {y : Option Value} {v : Int32} : Run 42 65 (x0 :: x1 :: y :: L) (.int v :: S) h = Run 42 66 (x0 :: ck x1 :: some (.int v) :: L) S h := Rg rfl
theorem e42_66 {L : Lo} {S : List Value} {h : Hp} {x0 x1 : Option Value} {v : Int32} : Run 42 66 (x0 :: x1 :: some (.int v) :: L) S h = Run 42 67 (x0 :: x1 :: some (.int v) :: L) (.int v :: S) h := Rg rfl
theorem e42_67 {L : Lo} {S : List Value} {h : Hp} {v : Nat} : Run 42 67 (some (.ref v) :: L) S h = Run 42 68 (some (.ref v) :: L) (.ref v :: S) h := Rg rfl
theorem e42_68 {L : Lo} {S : List Value} {h : Hp} {b : Nat} : Run 42 68 L (.ref b :: S) h = (gf h 6 5 b).bind fun v => Run 42 71 L (v :: S) h := Rb rfl fun _ => rfl
theorem e42_71 {L : Lo} {S : List Value} {h : Hp} {x z : Int32} : Run 42 71 L (.int z :: .int x :: S) h = if z ≤ x then Run 42 101 L S h else Run 42 74 L S h := Rbr (c := cnd .ge x z = true) (off := 30) rfl rfl cnd_ge
theorem e42_74 {L : Lo} {S : List Value} {h : Hp} {x0 x1 : Option Value} {v : Int32} : Run 42 74 (x0 :: x1 :: some (.int v) :: L) S h = Run 42 75 (x0 :: x1 :: some (.int v) :: L) (.int v :: S) h := Rg rfl
theorem e42_75 {L : Lo} {S : List Value} {h : Hp} : Run 42 75 L S h = Run 42 77 L (.int 8 :: S) h := Rg rfl
theorem e42_77 {L : Lo} {S : List Value} {h : Hp} {x z : Int32} : Run 42 77 L (.int z :: .int x :: S) h = if z ≤ x then Run 42 101 L S h else Run 42 80 L S h := Rbr (c := cnd .ge x z = true) (off := 24) rfl rfl cnd_ge
theorem e42_80 {L : Lo} {S : List Value} {h : Hp} {v : Nat} : Run 42 80 (some (.ref v) :: L) S h = Run 42 81 (some (.ref v) :: L) (.ref v :: S) h := Rg rfl
theorem e42_81 {L : Lo} {S : List Value} {h : Hp} {b : Nat} : Run 42 81 L (.ref b :: S) h = (gf h 6 7 b).bind fun v => Run 42 84 L (v :: S) h := Rb rfl fun _ => rfl
theorem e42_84 {L : Lo} {S : List Value} {h : Hp} {x0 x1 : Option Value} {v : Int32} : Run 42 84 (x0 :: x1 :: some (.int v) :: L) S h = Run 42 85 (x0 :: x1 :: some (.int v) :: L) (.int v :: S) h := Rg rfl
theorem e42_85 {L : Lo} {S : List Value} {h : Hp} {i : Int32} {b : Nat} : Run 42 85 L (.int i :: .ref b :: S) h = (gaR h b i).bind fun v => Run 42 86 L (va_rf v :: S) h := Rb rfl fun _ => rfl
theorem e42_86 {L : Lo} {S : List Value} {h : Hp} {x0 : Option Value} {v : Nat} : Run 42 86 (x0 :: some (.ref v) :: L) S h = Run 42 87 (x0 :: some (.ref v) :: L) (.ref v :: S) h := Rg rfl
theorem e42_87 {L : Lo} {S : List Value} {h : Hp} {b : Nat} : Run 42 87 L (.ref b :: S) h = (gf h 6 7 b).bind fun v => Run 42 90 L (v :: S) h := Rb rfl fun _ => rfl
theorem e42_90 {L : Lo} {S : List Value} {h : Hp} {x0 x1 : Option Value} {v : Int32} : Run 42 90 (x0 :: x1 :: some (.int v) :: L) S h = Run 42 91 (x0 :: x1 :: some (.int v) :: L) (.int v :: S) h := Rg rfl
theorem e42_91 {L : Lo} {S : List Value} {h : Hp} {i : Int32} {b : Nat} : Run 42 91 L (.int i :: .ref b :: S) h = (gaR h b i).bind fun v => Run 42 92 L (va_rf v :: S) h := Rb rfl fun _ => rfl
set_option maxRecDepth 100000 in
theorem e42_92 {L : Lo} {h : Hp} {a1 : Nat} {a0 : Nat} (hO : isO h a0 7 = true) : Run 42 92 L [.ref a1, .ref a0] h = (Run 72 0 [some (.ref a0), some (.ref a1)] [] h).bind fun o => aft 42 92 95 L [] o := Rcv (c := 72) (As := [.ref a1]) (S' := []) (pc' := 95) 7 rfl hO
theorem e42_95 {L : Lo} {S : List Value} {h : Hp} {x0 x1 : Option Value} {v : Int32} : Run 42 95 (x0 :: x1 :: some (.int v) :: L) S h = Run 42 98 (x0 :: x1 :: some (.int (v + 1)) :: L) S h := Rg rfl
theorem e42_98 {L : Lo} {S : List Value} {h : Hp} : Run 42 98 L S h = Run 42 66 L S h := Rg rfl
theorem e42_101 {L : Lo} {h : Hp} : Run 42 101 L [] h = some (.inl none, h) := Rd rfl
theorem e43_0 {L : Lo} {S : List Value} {h : Hp} {v : Nat} : Run 43 0 (some (.ref v) :: L) S h = Run 43 1 (some (.ref v) :: L) (.ref v :: S) h := Rg rfl
theorem e43_1 {L : Lo} {S : List Value} {h : Hp} {b : Nat} : Run 43 1 L (.ref b :: S) h = (gf h 6 0 b).bind fun v => Run 43 4 L (v :: S) h := Rb rfl fun _ => rfl
theorem e43_4 {L : Lo} {S : List Value} {h : Hp} {v : Nat} : Run 43 4 (some (.ref v) :: L) S h = Run 43 5 (some (.ref v) :: L) (.ref v :: S) h := Rg rfl
theorem e43_5 {L : Lo} {S : List Value} {h : Hp} {b : Nat} : Run 43 5 L (.ref b :: S) h = (gf h 6 1 b).bind fun v => Run 43 8 L (v :: S) h := Rb rfl fun _ => rfl
theorem e43_8 {L : Lo} {S : List Value} {h : Hp} {x z : Int32} : Run 43 8 L (.int z :: .int x :: S) h = Run 43 9 L (.int (x * z) :: S) h := Rg rfl
theorem e43_9 {L : Lo} {S : List Value} {h : Hp} : Run 43 9 L S h = Run 43 12 L (.int 144 :: S) h := Rg rfl
set_option maxRecDepth 100000 in
theorem e43_12 {L : Lo} {h : Hp} {a1 : Int32} {a0 : Int32} : Run 43 12 L [.int a1, .int a0] h = (Run 117 0 [some (.int a0), some (.int a1)] [] h).bind fun o => aft 43 12 15 L [] o := Rc (c := 117) (As := [.int a0, .int a1]) (S' := []) (pc' := 15) rfl
theorem e43_15 {L : Lo} {h : Hp} {x : Int32} : Run 43 15 L [.int x] h = some (.inl (some (.int x)), h) := Rd (if_pos (c := narrow .int (.int x) = .int x) rfl)
theorem e44_0 {L : Lo} {S : List Value} {h : Hp} {x0 : Option Value} {v : Int32} : Run 44 0 (x0 :: some (.int v) :: L) S h = Run 44 1 (x0 :: some (.int v) :: L) (.int v :: S) h := Rg rfl
theorem e44_1 {L : Lo} {S : List Value} {h : Hp} {x : Int32} : Run 44 1 L (.int x :: S) h = if x < 0 then Run 44 28 L S h else Run 44 4 L S h := Rbr (c := cnd .lt x 0 = true) (off := 27) rfl rfl cnd_lt
theorem e44_4 {L : Lo} {S : List Value} {h : Hp} {x0 : Option Value} {v : Int32} : Run 44 4 (x0 :: some (.int v) :: L) S h = Run 44 5 (x0 :: some (.int v) :: L) (.int v :: S) h := Rg rfl
theorem e44_5 {L : Lo} {S : List Value} {h : Hp} {v : Nat} : Run 44 5 (some (.ref v) :: L) S h = Run 44 6 (some (.ref v) :: L) (.ref v :: S) h := Rg rfl
theorem e44_6 {L : Lo} {S : List Value} {h : Hp} {b : Nat} : Run 44 6 L (.ref b :: S) h = (gf h 6 0 b).bind fun v => Run 44 9 L (v :: S) h := Rb rfl fun _ => rfl
theorem e44_9 {L : Lo} {S : List Value} {h : Hp} {v : Nat} : Run 44 9 (some (.ref v) :: L) S h = Run 44 10 (some (.ref v) :: L) (.ref v :: S) h := Rg rfl
theorem e44_10 {L : Lo} {S : List Value} {h : Hp} {b : Nat} : Run 44 10 L (.ref b :: S) h = (gf h 6 1 b).bind fun v => Run 44 13 L (v :: S) h := Rb rfl fun _ => rfl
theorem e44_13 {L : Lo} {S : List Value} {h : Hp} {x z : Int32} : Run 44 13 L (.int z :: .int x :: S) h = Run 44 14 L (.int (x * z) :: S) h := Rg rfl
theorem e44_14 {L : Lo} {S : List Value} {h : Hp} {x z : Int32} : Run 44 14 L (.int z :: .int x :: S) h = if z ≤ x then Run 44 28 L S h else Run 44 17 L S h := Rbr (c := cnd .ge x z = true) (off := 14) rfl rfl cnd_ge
theorem e44_17 {L : Lo} {S : List Value} {h : Hp} {x0 : Option Value} {v : Int32} : Run 44 17 (x0 :: some (.int v) :: L) S h = Run 44 18 (x0 :: some (.int v) :: L) (.int v :: S) h := Rg rfl
theorem e44_18 {L : Lo} {S : List Value} {h : Hp} : Run 44 18 L S h = Run 44 21 L (.int 144 :: S) h := Rg rfl
theorem e44_21 {L : Lo} {S : List Value} {h : Hp} {x z : Int32} : Run 44 21 L (.int z :: .int x :: S) h = if z ≤ x then Run 44 28 L S h else Run 44 24 L S h := Rbr (c := cnd .ge x z = true) (off := 7) rfl rfl cnd_ge
theorem e44_24 {L : Lo} {S : List Value} {h : Hp} : Run 44 24 L S h = Run 44 25 L (.int 1 :: S) h := Rg rfl
theorem e44_25 {L : Lo} {S : List Value} {h : Hp} : Run 44 25 L S h = Run 44 29 L S h := Rg rfl
theorem e44_28 {L : Lo} {S : List Value} {h : Hp} : Run 44 28 L S h = Run 44 29 L (.int 0 :: S) h := Rg rfl
theorem e44_29 {L : Lo} {h : Hp} {x : Int32} (hx : narrow .boolean (.int x) = .int x) : Run 44 29 L [.int x] h = some (.inl (some (.int x)), h) := Rd (if_pos hx)
theorem e45_0 {L : Lo} {S : List Value} {h : Hp} {x0 : Option Value} {v : Int32} : Run 45 0 (x0 :: some (.int v) :: L) S h = Run 45 1 (x0 :: some (.int v) :: L) (.int v :: S) h := Rg rfl
theorem e45_1 {L : Lo} {S : List Value} {h : Hp} {x : Int32} : Run 45 1 L (.int x :: S) h = if x < 0 then Run 45 22 L S h else Run 45 4 L S h := Rbr (c := cnd .lt x 0 = true) (off := 21) rfl rfl cnd_lt
theorem e45_4 {L : Lo} {S : List Value} {h : Hp} {x0 : Option Value} {v : Int32} : Run 45 4 (x0 :: some (.int v) :: L) S h = Run 45 5 (x0 :: some (.int v) :: L) (.int v :: S) h := Rg rfl
theorem e45_5 {L : Lo} {S : List Value} {h : Hp} {v : Nat} : Run 45 5 (some (.ref v) :: L) S h = Run 45 6 (some (.ref v) :: L) (.ref v :: S) h := Rg rfl
theorem e45_6 {L : Lo} {S : List Value} {h : Hp} {b : Nat} : Run 45 6 L (.ref b :: S) h = (gf h 6 5 b).bind fun v => Run 45 9 L (v :: S) h := Rb rfl fun _ => rfl
theorem e45_9 {L : Lo} {S : List Value} {h : Hp} {x z : Int32} : Run 45 9 L (.int z :: .int x :: S) h = if z ≤ x then Run 45 22 L S h else Run 45 12 L S h := Rbr (c := cnd .ge x z = true) (off := 13) rfl rfl cnd_ge
theorem e45_12 {L : Lo} {S : List Value} {h : Hp} {x0 : Option Value} {v : Int32} : Run 45 12 (x0 :: some (.int v) :: L) S h = Run 45 13 (x0 :: some (.int v) :: L) (.int v :: S) h := Rg rfl
theorem e45_13 {L : Lo} {S : List Value} {h : Hp} : Run 45 13 L S h = Run 45 15 L (.int 8 :: S) h := Rg rfl
theorem e45_15 {L : Lo} {S : List Value} {h : Hp} {x z : Int32} : Run 45 15 L (.int z :: .int x :: S) h = if z ≤ x then Run 45 22 L S h else Run 45 18 L S h := Rbr (c := cnd .ge x z = true) (off := 7) rfl rfl cnd_ge
theorem e45_18 {L : Lo} {S : List Value} {h : Hp} : Run 45 18 L S h = Run 45 19 L (.int 1 :: S) h := Rg rfl
theorem e45_19 {L : Lo} {S : List Value} {h : Hp} : Run 45 19 L S h = Run 45 23 L S h := Rg rfl
theorem e45_22 {L : Lo} {S : List Value} {h : Hp} : Run 45 22 L S h = Run 45 23 L (.int 0 :: S) h := Rg rfl
theorem e45_23 {L : Lo} {h : Hp} {x : Int32} (hx : narrow .boolean (.int x) = .int x) : Run 45 23 L [.int x] h = some (.inl (some (.int x)), h) := Rd (if_pos hx)
theorem e46_0 {L : Lo} {S : List Value} {h : Hp} {v : Nat} : Run 46 0 (some (.ref v) :: L) S h = Run 46 1 (some (.ref v) :: L) (.ref v :: S) h := Rg rfl
theorem e46_1 {L : Lo} {S : List Value} {h : Hp} {b : Nat} : Run 46 1 L (.ref b :: S) h = (gf h 6 0 b).bind fun v => Run 46 4 L (v :: S) h := Rb rfl fun _ => rfl
theorem e46_4 {L : Lo} {S : List Value} {h : Hp} {x : Int32} : Run 46 4 L (.int x :: S) h = if x ≤ 0 then Run 46 16 L S h else Run 46 7 L S h := Rbr (c := cnd .le x 0 = true) (off := 12) rfl rfl cnd_le
theorem e46_7 {L : Lo} {S : List Value} {h : Hp} {x0 : Option Value} {v : Int32} : Run 46 7 (x0 :: some (.int v) :: L) S h = Run 46 8 (x0 :: some (.int v) :: L) (.int v :: S) h := Rg rfl
theorem e46_8 {L : Lo} {S : List Value} {h : Hp} {v : Nat} : Run 46 8 (some (.ref v) :: L) S h = Run 46 9 (some (.ref v) :: L) (.ref v :: S) h := Rg rfl
theorem e46_9 {L : Lo} {S : List Value} {h : Hp} {b : Nat} : Run 46 9 L (.ref b :: S) h = (gf h 6 0 b).bind fun v => Run 46 12 L (v :: S) h := Rb rfl fun _ => rfl
theorem e46_12 {L : Lo} {S : List Value} {h : Hp} {x z : Int32} (hz : ¬ z = 0) : Run 46 12 L (.int z :: .int x :: S) h = Run 46 13 L (.int (x / z) :: S) h := Rg (if_neg hz)
theorem e46_13 {L : Lo} {S : List Value} {h : Hp} : Run 46 13 L S h = Run 46 17 L S h := Rg rfl
theorem e46_16 {L : Lo} {S : List Value} {h : Hp} : Run 46 16 L S h = Run 46 17 L (.int 0 :: S) h := Rg rfl
theorem e46_17 {L : Lo} {h : Hp} {x : Int32} : Run 46 17 L [.int x] h = some (.inl (some (.int x)), h) := Rd (if_pos (c := narrow .int (.int x) = .int x) rfl)
theorem e47_0 {L : Lo} {S : List Value} {h : Hp} {v : Nat} : Run 47 0 (some (.ref v) :: L) S h = Run 47 1 (some (.ref v) :: L) (.ref v :: S) h := Rg rfl
theorem e47_1 {L : Lo} {S : List Value} {h : Hp} {b : Nat} : Run 47 1 L (.ref b :: S) h = (gf h 6 0 b).bind fun v => Run 47 4 L (v :: S) h := Rb rfl fun _ => rfl
theorem e47_4 {L : Lo} {S : List Value} {h : Hp} {x : Int32} : Run 47 4 L (.int x :: S) h = if x ≤ 0 then Run 47 16 L S h else Run 47 7 L S h := Rbr (c := cnd .le x 0 = true) (off := 12) rfl rfl cnd_le
theorem e47_7 {L : Lo} {S : List Value} {h : Hp} {x0 : Option Value} {v : Int32} : Run 47 7 (x0 :: some (.int v) :: L) S h = Run 47 8 (x0 :: some (.int v) :: L) (.int v :: S) h := Rg rfl
theorem e47_8 {L : Lo} {S : List Value} {h : Hp} {v : Nat} : Run 47 8 (some (.ref v) :: L) S h = Run 47 9 (some (.ref v) :: L) (.ref v :: S) h := Rg rfl
theorem e47_9 {L : Lo} {S : List Value} {h : Hp} {b : Nat} : Run 47 9 L (.ref b :: S) h = (gf h 6 0 b).bind fun v => Run 47 12 L (v :: S) h := Rb rfl fun _ => rfl
theorem e47_12 {L : Lo} {S : List Value} {h : Hp} {x z : Int32} (hz : ¬ z = 0) : Run 47 12 L (.int z :: .int x :: S) h = Run 47 13 L (.int (x - x / z * z) :: S) h := Rg (if_neg hz)
theorem e47_13 {L : Lo} {S : List Value} {h : Hp} : Run 47 13 L S h = Run 47 17 L S h := Rg rfl
theorem e47_16 {L : Lo} {S : List Value} {h : Hp} : Run 47 16 L S h = Run 47 17 L (.int 0 :: S) h := Rg rfl
theorem e47_17 {L : Lo} {h : Hp} {x : Int32} : Run 47 17 L [.int x] h = some (.inl (some (.int x)), h) := Rd (if_pos (c := narrow .int (.int x) = .int x) rfl)
theorem e48_0 {L : Lo} {S : List Value} {h : Hp} {v : Nat} : Run 48 0 (some (.ref v) :: L) S h = Run 48 1 (some (.ref v) :: L) (.ref v :: S) h := Rg rfl
theorem e48_1 {L : Lo} {S : List Value} {h : Hp} {x0 : Option Value} {v : Int32} : Run 48 1 (x0 :: some (.int v) :: L) S h = Run 48 2 (x0 :: some (.int v) :: L) (.int v :: S) h := Rg rfl
set_option maxRecDepth 100000 in
theorem e48_2 {L : Lo} {h : Hp} {a1 : Int32} {a0 : Nat} (hO : isO h a0 6 = true) : Run 48 2 L [.int a1, .ref a0] h = (Run 44 0 [some (.ref a0), some (.int a1)] [] h).bind fun o => aft 48 2 5 L [] o := Rcv (c := 44) (As := [.int a1]) (S' := []) (pc' := 5) 6 rfl hO
theorem e48_5 {L : Lo} {S : List Value} {h : Hp} {x : Int32} : Run 48 5 L (.int x :: S) h = if x = 0 then Run 48 21 L S h else Run 48 8 L S h := Rbr (c := cnd .eq x 0 = true) (off := 16) rfl rfl cnd_eq
theorem e48_8 {L : Lo} {S : List Value} {h : Hp} {v : Nat} : Run 48 8 (some (.ref v) :: L) S h = Run 48 9 (some (.ref v) :: L) (.ref v :: S) h := Rg rfl
theorem e48_9 {L : Lo} {S : List Value} {h : Hp} {b : Nat} : Run 48 9 L (.ref b :: S) h = (gf h 6 6 b).bind fun v => Run 48 12 L (v :: S) h := Rb rfl fun _ => rfl
theorem e48_12 {L : Lo} {S : List Value} {h : Hp} {x0 : Option Value} {v : Int32} : Run 48 12 (x0 :: some (.int v) :: L) S h = Run 48 13 (x0 :: some (.int v) :: L) (.int v :: S) h := Rg rfl
theorem e48_13 {L : Lo} {S : List Value} {h : Hp} {i : Int32} {b : Nat} : Run 48 13 L (.int i :: .ref b :: S) h = (gaI h b i).bind fun v => Run 48 14 L (.int v :: S) h := Rb rfl fun _ => rfl
theorem e48_14 {L : Lo} {S : List Value} {h : Hp} {x : Int32} : Run 48 14 L (.int x :: S) h = if x = 0 then Run 48 21 L S h else Run 48 17 L S h := Rbr (c := cnd .eq x 0 = true) (off := 7) rfl rfl cnd_eq
theorem e48_17 {L : Lo} {S : List Value} {h : Hp} : Run 48 17 L S h = Run 48 18 L (.int 1 :: S) h := Rg rfl
theorem e48_18 {L : Lo} {S : List Value} {h : Hp} : Run 48 18 L S h = Run 48 22 L S h := Rg rfl
theorem e48_21 {L : Lo} {S : List Value} {h : Hp} : Run 48 21 L S h = Run 48 22 L (.int 0 :: S) h := Rg rfl
theorem e48_22 {L : Lo} {h : Hp} {x : Int32} (hx : narrow .boolean (.int x) = .int x) : Run 48 22 L [.int x] h = some (.inl (some (.int x)), h) := Rd (if_pos hx)
theorem e49_0 {L : Lo} {S : List Value} {h : Hp} {v : Nat} : Run 49 0 (some (.ref v) :: L) S h = Run 49 1 (some (.ref v) :: L) (.ref v :: S) h := Rg rfl
theorem e49_1 {L : Lo} {S : List Value} {h : Hp} {x0 : Option Value} {v : Int32} : Run 49 1 (x0 :: some (.int v) :: L) S h = Run 49 2 (x0 :: some (.int v) :: L) (.int v :: S) h := Rg rfl
set_option maxRecDepth 100000 in
theorem e49_2 {L : Lo} {h : Hp} {a1 : Int32} {a0 : Nat} (hO : isO h a0 6 = true) : Run 49 2 L [.int a1, .ref a0] h = (Run 44 0 [some (.ref a0), some (.int a1)] [] h).bind fun o => aft 49 2 5 L [] o := Rcv (c := 44) (As := [.int a1]) (S' := []) (pc' := 5) 6 rfl hO
theorem e49_5 {L : Lo} {S : List Value} {h : Hp} {x : Int32} : Run 49 5 L (.int x :: S) h = if x = 0 then Run 49 23 L S h else Run 49 8 L S h := Rbr (c := cnd .eq x 0 = true) (off := 18) rfl rfl cnd_eq
theorem e49_8 {L : Lo} {S : List Value} {h : Hp} {v : Nat} : Run 49 8 (some (.ref v) :: L) S h = Run 49 9 (some (.ref v) :: L) (.ref v :: S) h := Rg rfl
theorem e49_9 {L : Lo} {S : List Value} {h : Hp} {b : Nat} : Run 49 9 L (.ref b :: S) h = (gf h 6 6 b).bind fun v => Run 49 12 L (v :: S) h := Rb rfl fun _ => rfl
theorem e49_12 {L : Lo} {S : List Value} {h : Hp} {x0 : Option Value} {v : Int32} : Run 49 12 (x0 :: some (.int v) :: L) S h = Run 49 13 (x0 :: some (.int v) :: L) (.int v :: S) h := Rg rfl
theorem e49_13 {L : Lo} {S : List Value} {h : Hp} {x0 x1 : Option Value} {v : Int32} : Run 49 13 (x0 :: x1 :: some (.int v) :: L) S h = Run 49 14 (x0 :: x1 :: some (.int v) :: L) (.int v :: S) h := Rg rfl
theorem e49_14 {L : Lo} {S : List Value} {h : Hp} {x : Int32} : Run 49 14 L (.int x :: S) h = if x = 0 then Run 49 21 L S h else Run 49 17 L S h := Rbr (c := cnd .eq x 0 = true) (off := 7) rfl rfl cnd_eq
theorem e49_17 {L : Lo} {S : List Value} {h : Hp} : Run 49 17 L S h = Run 49 18 L (.int 1 :: S) h := Rg rfl
theorem e49_18 {L : Lo} {S : List Value} {h : Hp} : Run 49 18 L S h = Run 49 22 L S h := Rg rfl
theorem e49_21 {L : Lo} {S : List Value} {h : Hp} : Run 49 21 L S h = Run 49 22 L (.int 0 :: S) h := Rg rfl
theorem e49_22 {L : Lo} {S : List Value} {h : Hp} {v : Int32} {i : Int32} {b : Nat} : Run 49 22 L (.int v :: .int i :: .ref b :: S) h = (paI h b i v).bind fun h1 => Run 49 23 L S h1 := Rb rfl fun _ => rfl
theorem e49_23 {L : Lo} {h : Hp} : Run 49 23 L [] h = some (.inl none, h) := Rd rfl
theorem e50_0 {L : Lo} {S : List Value} {h : Hp} : Run 50 0 L S h = Run 50 1 L (.int 0 :: S) h := Rg rfl
theorem e50_1 {L : Lo} {S : List Value} {h : Hp} {x0 x1 : Option Value} {y : Option Value} {v : Int32} : Run 50 1 (x0 :: x1 :: y :: L) (.int v :: S) h = Run 50 2 (x0 :: ck x1 :: some (.int v) :: L) S h := Rg rfl
theorem e50_2 {L : Lo} {S : List Value} {h : Hp} {x0 x1 : Option Value} {v : Int32} : Run 50 2 (x0 :: x1 :: some (.int v) :: L) S h = Run 50 3 (x0 :: x1 :: some (.int v) :: L) (.int v :: S) h := Rg rfl
theorem e50_3 {L : Lo} {S : List Value} {h : Hp} {v : Nat} : Run 50 3 (some (.ref v) :: L) S h = Run 50 4 (some (.ref v) :: L) (.ref v :: S) h := Rg rfl
theorem e50_4 {L : Lo} {S : List Value} {h : Hp} {b : Nat} : Run 50 4 L (.ref b :: S) h = (gf h 6 5 b).bind fun v => Run 50 7 L (v :: S) h := Rb rfl fun _ => rfl
theorem e50_7 {L : Lo} {S : List Value} {h : Hp} {x z : Int32} : Run 50 7 L (.int z :: .int x :: S) h = if z ≤ x then Run 50 49 L S h else Run 50 10 L S h := Rbr (c := cnd .ge x z = true) (off := 42) rfl rfl cnd_ge
theorem e50_10 {L : Lo} {S : List Value} {h : Hp} {x0 x1 : Option Value} {v : Int32} : Run 50 10 (x0 :: x1 :: some (.int v) :: L) S h = Run 50 11 (x0 :: x1 :: some (.int v) :: L) (.int v :: S) h := Rg rfl
theorem e50_11 {L : Lo} {S : List Value} {h : Hp} : Run 50 11 L S h = Run 50 13 L (.int 8 :: S) h := Rg rfl
theorem e50_13 {L : Lo} {S : List Value} {h : Hp} {x z : Int32} : Run 50 13 L (.int z :: .int x :: S) h = if z ≤ x then Run 50 49 L S h else Run 50 16 L S h := Rbr (c := cnd .ge x z = true) (off := 36) rfl rfl cnd_ge
theorem e50_16 {L : Lo} {S : List Value} {h : Hp} {v : Nat} : Run 50 16 (some (.ref v) :: L) S h = Run 50 17 (some (.ref v) :: L) (.ref v :: S) h := Rg rfl
theorem e50_17 {L : Lo} {S : List Value} {h : Hp} {b : Nat} : Run 50 17 L (.ref b :: S) h = (gf h 6 7 b).bind fun v => Run 50 20 L (v :: S) h := Rb rfl fun _ => rfl
theorem e50_20 {L : Lo} {S : List Value} {h : Hp} {x0 x1 : Option Value} {v : Int32} : Run 50 20 (x0 :: x1 :: some (.int v) :: L) S h = Run 50 21 (x0 :: x1 :: some (.int v) :: L) (.int v :: S) h := Rg rfl
theorem e50_21 {L : Lo} {S : List Value} {h : Hp} {i : Int32} {b : Nat} : Run 50 21 L (.int i :: .ref b :: S) h = (gaR h b i).bind fun v => Run 50 22 L (va_rf v :: S) h := Rb rfl fun _ => rfl
set_option maxRecDepth 100000 in
theorem e50_22 {L : Lo} {h : Hp} {a0 : Nat} (hO : isO h a0 7 = true) : Run 50 22 L [.ref a0] h = (Run 73 0 [some (.ref a0)] [] h).bind fun o => aft 50 22 25 L [] o := Rcv (c := 73) (As := []) (S' := []) (pc' := 25) 7 rfl hO
theorem e50_25 {L : Lo} {S : List Value} {h : Hp} {x : Int32} : Run 50 25 L (.int x :: S) h = if x = 0 then Run 50 43 L S h else Run 50 28 L S h := Rbr (c := cnd .eq x 0 = true) (off := 18) rfl rfl cnd_eq
theorem e50_28 {L : Lo} {S : List Value} {h : Hp} {v : Nat} : Run 50 28 (some (.ref v) :: L) S h = Run 50 29 (some (.ref v) :: L) (.ref v :: S) h := Rg rfl
theorem e50_29 {L : Lo} {S : List Value} {h : Hp} {b : Nat} : Run 50 29 L (.ref b :: S) h = (gf h 6 7 b).bind fun v => Run 50 32 L (v :: S) h := Rb rfl fun _ => rfl
theorem e50_32 {L : Lo} {S : List Value} {h : Hp} {x0 x1 : Option Value} {v : Int32} : Run 50 32 (x0 :: x1 :: some (.int v) :: L) S h = Run 50 33 (x0 :: x1 :: some (.int v) :: L) (.int v :: S) h := Rg rfl
theorem e50_33 {L : Lo} {S : List Value} {h : Hp} {i : Int32} {b : Nat} : Run 50 33 L (.int i :: .ref b :: S) h = (gaR h b i).bind fun v => Run 50 34 L (va_rf v :: S) h := Rb rfl fun _ => rfl
theorem e50_34 {L : Lo} {S : List Value} {h : Hp} {b : Nat} : Run 50 34 L (.ref b :: S) h = (gf h 7 1 b).bind fun v => Run 50 37 L (v :: S) h := Rb rfl fun _ => rfl
theorem e50_37 {L : Lo} {S : List Value} {h : Hp} {x0 : Option Value} {v : Int32} : Run 50 37 (x0 :: some (.int v) :: L) S h = Run 50 38 (x0 :: some (.int v) :: L) (.int v :: S) h := Rg rfl
theorem e50_38 {L : Lo} {S : List Value} {h : Hp} {x z : Int32} : Run 50 38 L (.int z :: .int x :: S) h = if x = z then Run 50 41 L S h else Run 50 43 L S h := RbrN (c := cnd .ne x z = true) (off := 5) rfl rfl cnd_ne
theorem e50_41 {L : Lo} {S : List Value} {h : Hp} {x0 x1 : Option Value} {v : Int32} : Run 50 41 (x0 :: x1 :: some (.int v) :: L) S h = Run 50 42 (x0 :: x1 :: some (.int v) :: L) (.int v :: S) h := Rg rfl
theorem e50_42 {L : Lo} {h : Hp} {x : Int32} : Run 50 42 L [.int x] h = some (.inl (some (.int x)), h) := Rd (if_pos (c := narrow .int (.int x) = .int x) rfl)
theorem e50_43 {L : Lo} {S : List Value} {h : Hp} {x0 x1 : Option Value} {v : Int32} : Run 50 43 (x0 :: x1 :: some (.int v) :: L) S h = Run 50 46 (x0 :: x1 :: some (.int (v + 1)) :: L) S h := Rg rfl
theorem e50_46 {L : Lo} {S : List Value} {h : Hp} : Run 50 46 L S h = Run 50 2 L S h := Rg rfl
theorem e50_49 {L : Lo} {S : List Value} {h : Hp} : Run 50 49 L S h = Run 50 50 L (.int (-1) :: S) h := Rg rfl
theorem e50_50 {L : Lo} {h : Hp} {x : Int32} : Run 50 50 L [.int x] h = some (.inl (some (.int x)), h) := Rd (if_pos (c := narrow .int (.int x) = .int x) rfl)
theorem e51_0 {L : Lo} {S : List Value} {h : Hp} {v : Nat} : Run 51 0 (some (.ref v) :: L) S h = Run 51 1 (some (.ref v) :: L) (.ref v :: S) h := Rg rfl
theorem e51_1 {L : Lo} {S : List Value} {h : Hp} {x0 : Option Value} {v : Int32} : Run 51 1 (x0 :: some (.int v) :: L) S h = Run 51 2 (x0 :: some (.int v) :: L) (.int v :: S) h := Rg rfl
set_option maxRecDepth 100000 in
theorem e51_2 {L : Lo} {h : Hp} {a1 : Int32} {a0 : Nat} (hO : isO h a0 6 = true) : Run 51 2 L [.int a1, .ref a0] h = (Run 44 0 [some (.ref a0), some (.int a1)] [] h).bind fun o => aft 51 2 5 L [] o := Rcv (c := 44) (As := [.int a1]) (S' := []) (pc' := 5) 6 rfl hO
theorem e51_5 {L : Lo} {S : List Value} {h : Hp} {x : Int32} : Run 51 5 L (.int x :: S) h = if x = 0 then Run 51 30 L S h else Run 51 8 L S h := Rbr (c := cnd .eq x 0 = true) (off := 25) rfl rfl cnd_eq
theorem e51_8 {L : Lo} {S : List Value} {h : Hp} {v : Nat} : Run 51 8 (some (.ref v) :: L) S h = Run 51 9 (some (.ref v) :: L) (.ref v :: S) h := Rg rfl
theorem e51_9 {L : Lo} {S : List Value} {h : Hp} {b : Nat} : Run 51 9 L (.ref b :: S) h = (gf h 6 6 b).bind fun v => Run 51 12 L (v :: S) h := Rb rfl fun _ => rfl
theorem e51_12 {L : Lo} {S : List Value} {h : Hp} {x0 : Option Value} {v : Int32} : Run 51 12 (x0 :: some (.int v) :: L) S h = Run 51 13 (x0 :: some (.int v) :: L) (.int v :: S) h := Rg rfl
theorem e51_13 {L : Lo} {S : List Value} {h : Hp} {i : Int32} {b : Nat} : Run 51 13 L (.int i :: .ref b :: S) h = (gaI h b i).bind fun v => Run 51 14 L (.int v :: S) h := Rb rfl fun _ => rfl
theorem e51_14 {L : Lo} {S : List Value} {h : Hp} {x : Int32} : Run 51 14 L (.int x :: S) h = if x = 0 then Run 51 17 L S h else Run 51 30 L S h := RbrN (c := cnd .ne x 0 = true) (off := 16) rfl rfl cnd_ne
theorem e51_17 {L : Lo} {S : List Value} {h : Hp} {v : Nat} : Run 51 17 (some (.ref v) :: L) S h = Run 51 18 (some (.ref v) :: L) (.ref v :: S) h := Rg rfl
theorem e51_18 {L : Lo} {S : List Value} {h : Hp} {x0 : Option Value} {v : Int32} : Run 51 18 (x0 :: some (.int v) :: L) S h = Run 51 19 (x0 :: some (.int v) :: L) (.int v :: S) h := Rg rfl
set_option maxRecDepth 100000 in
theorem e51_19 {L : Lo} {h : Hp} {a1 : Int32} {a0 : Nat} (hO : isO h a0 6 = true) : Run 51 19 L [.int a1, .ref a0] h = (Run 50 0 [some (.ref a0), some (.int a1), none] [] h).bind fun o => aft 51 19 22 L [] o := Rcv (c := 50) (As := [.int a1]) (S' := []) (pc' := 22) 6 rfl hO
theorem e51_22 {L : Lo} {S : List Value} {h : Hp} : Run 51 22 L S h = Run 51 23 L (.int (-1) :: S) h := Rg rfl
theorem e51_23 {L : Lo} {S : List Value} {h : Hp} {x z : Int32} : Run 51 23 L (.int z :: .int x :: S) h = if x = z then Run 51 26 L S h else Run 51 30 L S h := RbrN (c := cnd .ne x z = true) (off := 7) rfl rfl cnd_ne
theorem e51_26 {L : Lo} {S : List Value} {h : Hp} : Run 51 26 L S h = Run 51 27 L (.int 1 :: S) h := Rg rfl
theorem e51_27 {L : Lo} {S : List Value} {h : Hp} : Run 51 27 L S h = Run 51 31 L S h := Rg rfl
theorem e51_30 {L : Lo} {S : List Value} {h : Hp} : Run 51 30 L S h = Run 51 31 L (.int 0 :: S) h := Rg rfl
theorem e51_31 {L : Lo} {h : Hp} {x : Int32} (hx : narrow .boolean (.int x) = .int x) : Run 51 31 L [.int x] h = some (.inl (some (.int x)), h) := Rd (if_pos hx)
theorem e52_0 {L : Lo} {S : List Value} {h : Hp} {v : Nat} : Run 52 0 (some (.ref v) :: L) S h = Run 52 1 (some (.ref v) :: L) (.ref v :: S) h := Rg rfl
theorem e52_1 {L : Lo} {S : List Value} {h : Hp} {x0 : Option Value} {v : Int32} : Run 52 1 (x0 :: some (.int v) :: L) S h = Run 52 2 (x0 :: some (.int v) :: L) (.int v :: S) h := Rg rfl
set_option maxRecDepth 100000 in
theorem e52_2 {L : Lo} {h : Hp} {a1 : Int32} {a0 : Nat} (hO : isO h a0 6 = true) : Run 52 2 L [.int a1, .ref a0] h = (Run 48 0 [some (.ref a0), some (.int a1)] [] h).bind fun o => aft 52 2 5 L [] o := Rcv (c := 48) (As := [.int a1]) (S' := []) (pc' := 5) 6 rfl hO
theorem e52_5 {L : Lo} {S : List Value} {h : Hp} {x : Int32} : Run 52 5 L (.int x :: S) h = if x = 0 then Run 52 13 L S h else Run 52 8 L S h := Rbr (c := cnd .eq x 0 = true) (off := 8) rfl rfl cnd_eq
theorem e52_8 {L : Lo} {S : List Value} {h : Hp} : Run 52 8 L S h = Run 52 10 L (.int (-2) :: S) h := Rg rfl
theorem e52_10 {L : Lo} {S : List Value} {h : Hp} : Run 52 10 L S h = Run 52 18 L S h := Rg rfl
theorem e52_13 {L : Lo} {S : List Value} {h : Hp} {v : Nat} : Run 52 13 (some (.ref v) :: L) S h = Run 52 14 (some (.ref v) :: L) (.ref v :: S) h := Rg rfl
theorem e52_14 {L : Lo} {S : List Value} {h : Hp} {x0 : Option Value} {v : Int32} : Run 52 14 (x0 :: some (.int v) :: L) S h = Run 52 15 (x0 :: some (.int v) :: L) (.int v :: S) h := Rg rfl
set_option maxRecDepth 100000 in
theorem e52_15 {L : Lo} {h : Hp} {a1 : Int32} {a0 : Nat} (hO : isO h a0 6 = true) : Run 52 15 L [.int a1, .ref a0] h = (Run 50 0 [some (.ref a0), some (.int a1), none] [] h).bind fun o => aft 52 15 18 L [] o := Rcv (c := 50) (As := [.int a1]) (S' := []) (pc' := 18) 6 rfl hO
theorem e52_18 {L : Lo} {h : Hp} {x : Int32} : Run 52 18 L [.int x] h = some (.inl (some (.int x)), h) := Rd (if_pos (c := narrow .int (.int x) = .int x) rfl)
theorem e53_0 {L : Lo} {S : List Value} {h : Hp} {v : Nat} : Run 53 0 (some (.ref v) :: L) S h = Run 53 1 (some (.ref v) :: L) (.ref v :: S) h := Rg rfl
theorem e53_1 {L : Lo} {S : List Value} {h : Hp} {x0 : Option Value} {v : Int32} : Run 53 1 (x0 :: some (.int v) :: L) S h = Run 53 2 (x0 :: some (.int v) :: L) (.int v :: S) h := Rg rfl
set_option maxRecDepth 100000 in
theorem e53_2 {L : Lo} {h : Hp} {a1 : Int32} {a0 : Nat} (hO : isO h a0 6 = true) : Run 53 2 L [.int a1, .ref a0] h = (Run 44 0 [some (.ref a0), some (.int a1)] [] h).bind fun o => aft 53 2 5 L [] o := Rcv (c := 44) (As := [.int a1]) (S' := []) (pc' := 5) 6 rfl hO
theorem e53_5 {L : Lo} {S : List Value} {h : Hp} {x : Int32} : Run 53 5 L (.int x :: S) h = if x = 0 then Run 53 8 L S h else Run 53 10 L S h := RbrN (c := cnd .ne x 0 = true) (off := 5) rfl rfl cnd_ne
theorem e53_8 {L : Lo} {S : List Value} {h : Hp} : Run 53 8 L S h = Run 53 9 L (.int (-1) :: S) h := Rg rfl
theorem e53_9 {L : Lo} {h : Hp} {x : Int32} : Run 53 9 L [.int x] h = some (.inl (some (.int x)), h) := Rd (if_pos (c := narrow .int (.int x) = .int x) rfl)
theorem e53_10 {L : Lo} {S : List Value} {h : Hp} {x0 x1 : Option Value} {v : Int32} : Run 53 10 (x0 :: x1 :: some (.int v) :: L) S h = Run 53 11 (x0 :: x1 :: some (.int v) :: L) (.int v :: S) h := Rg rfl
theorem e53_11 {L : Lo} {S : List Value} {h : Hp} : Run 53 11 L S h = Run 53 13 L (.int 6 :: S) h := Rg rfl
set_option maxRecDepth 100000 in
theorem e53_13 {L : Lo} {h : Hp} {a1 : Int32} {a0 : Int32} : Run 53 13 L [.int a1, .int a0] h = (Run 114 0 [some (.int a0), some (.int a1), none] [] h).bind fun o => aft 53 13 16 L [] o := Rc (c := 114) (As := [.int a0, .int a1]) (S' := []) (pc' := 16) rfl
theorem e53_16 {L : Lo} {S : List Value} {h : Hp} {x0 x1 x2 : Option Value} {y : Option Value} {v : Int32} : Run 53 16 (x0 :: x1 :: x2 :: y :: L) (.int v :: S) h = Run 53 17 (x0 :: x1 :: ck x2 :: some (.int v) :: L) S h := Rg rfl
theorem e53_17 {L : Lo} {S : List Value} {h : Hp} {v : Nat} : Run 53 17 (some (.ref v) :: L) S h = Run 53 18 (some (.ref v) :: L) (.ref v :: S) h := Rg rfl
theorem e53_18 {L : Lo} {S : List Value} {h : Hp} {x0 : Option Value} {v : Int32} : Run 53 18 (x0 :: some (.int v) :: L) S h = Run 53 19 (x0 :: some (.int v) :: L) (.int v :: S) h := Rg rfl
set_option maxRecDepth 100000 in
theorem e53_19 {L : Lo} {h : Hp} {a1 : Int32} {a0 : Nat} (hO : isO h a0 6 = true) : Run 53 19 L [.int a1, .ref a0] h = (Run 46 0 [some (.ref a0), some (.int a1)] [] h).bind fun o => aft 53 19 22 L [] o := Rcv (c := 46) (As := [.int a1]) (S' := []) (pc' := 22) 6 rfl hO
theorem e53_22 {L : Lo} {S : List Value} {h : Hp} : Run 53 22 L S h = Run 53 25 L (.ref 1 :: S) h := Rg rfl
theorem e53_25 {L : Lo} {S : List Value} {h : Hp} {x0 x1 x2 : Option Value} {v : Int32} : Run 53 25 (x0 :: x1 :: x2 :: some (.int v) :: L) S h = Run 53 26 (x0 :: x1 :: x2 :: some (.int v) :: L) (.int v :: S) h := Rg rfl
theorem e53_26 {L : Lo} {S : List Value} {h : Hp} {i : Int32} {b : Nat} : Run 53 26 L (.int i :: .ref b :: S) h = (gaI h b i).bind fun v => Run 53 27 L (.int v :: S) h := Rb rfl fun _ => rfl
theorem e53_27 {L : Lo} {S : List Value} {h : Hp} {x z : Int32} : Run 53 27 L (.int z :: .int x :: S) h = Run 53 28 L (.int (x + z) :: S) h := Rg rfl
theorem e53_28 {L : Lo} {S : List Value} {h : Hp} {x0 x1 x2 x3 : Option Value} {y : Option Value} {v : Int32} : Run 53 28 (x0 :: x1 :: x2 :: x3 :: y :: L) (.int v :: S) h = Run 53 30 (x0 :: x1 :: x2 :: ck x3 :: some (.int v) :: L) S h := Rg rfl
theorem e53_30 {L : Lo} {S : List Value} {h : Hp} {v : Nat} : Run 53 30 (some (.ref v) :: L) S h = Run 53 31 (some (.ref v) :: L) (.ref v :: S) h := Rg rfl
theorem e53_31 {L : Lo} {S : List Value} {h : Hp} {x0 : Option Value} {v : Int32} : Run 53 31 (x0 :: some (.int v) :: L) S h = Run 53 32 (x0 :: some (.int v) :: L) (.int v :: S) h := Rg rfl
set_option maxRecDepth 100000 in
theorem e53_32 {L : Lo} {h : Hp} {a1 : Int32} {a0 : Nat} (hO : isO h a0 6 = true) : Run 53 32 L [.int a1, .ref a0] h = (Run 47 0 [some (.ref a0), some (.int a1)] [] h).bind fun o => aft 53 32 35 L [] o := Rcv (c := 47) (As := [.int a1]) (S' := []) (pc' := 35) 6 rfl hO
theorem e53_35 {L : Lo} {S : List Value} {h : Hp} : Run 53 35 L S h = Run 53 38 L (.ref 2 :: S) h := Rg rfl
theorem e53_38 {L : Lo} {S : List Value} {h : Hp} {x0 x1 x2 : Option Value} {v : Int32} : Run 53 38 (x0 :: x1 :: x2 :: some (.int v) :: L) S h = Run 53 39 (x0 :: x1 :: x2 :: some (.int v) :: L) (.int v :: S) h := Rg rfl
theorem e53_39 {L : Lo} {S : List Value} {h : Hp} {i : Int32} {b : Nat} : Run 53 39 L (.int i :: .ref b :: S) h = (gaI h b i).bind fun v => Run 53 40 L (.int v :: S) h := Rb rfl fun _ => rfl
theorem e53_40 {L : Lo} {S : List Value} {h : Hp} {x z : Int32} : Run 53 40 L (.int z :: .int x :: S) h = Run 53 41 L (.int (x + z) :: S) h := Rg rfl
theorem e53_41 {L : Lo} {S : List Value} {h : Hp} {x0 x1 x2 x3 x4 : Option Value} {y : Option Value} {v : Int32} : Run 53 41 (x0 :: x1 :: x2 :: x3 :: x4 :: y :: L) (.int v :: S) h = Run 53 43 (x0 :: x1 :: x2 :: x3 :: ck x4 :: some (.int v) :: L) S h := Rg rfl
theorem e53_43 {L : Lo} {S : List Value} {h : Hp} {x0 x1 x2 x3 : Option Value} {v : Int32} : Run 53 43 (x0 :: x1 :: x2 :: x3 :: some (.int v) :: L) S h = Run 53 45 (x0 :: x1 :: x2 :: x3 :: some (.int v) :: L) (.int v :: S) h := Rg rfl
theorem e53_45 {L : Lo} {S : List Value} {h : Hp} {x : Int32} : Run 53 45 L (.int x :: S) h = if x < 0 then Run 53 71 L S h else Run 53 48 L S h := Rbr (c := cnd .lt x 0 = true) (off := 26) rfl rfl cnd_lt
theorem e53_48 {L : Lo} {S : List Value} {h : Hp} {x0 x1 x2 x3 : Option Value} {v : Int32} : Run 53 48 (x0 :: x1 :: x2 :: x3 :: some (.int v) :: L) S h = Run 53 50 (x0 :: x1 :: x2 :: x3 :: some (.int v) :: L) (.int v :: S) h := Rg rfl
theorem e53_50 {L : Lo} {S : List Value} {h : Hp} {v : Nat} : Run 53 50 (some (.ref v) :: L) S h = Run 53 51 (some (.ref v) :: L) (.ref v :: S) h := Rg rfl
theorem e53_51 {L : Lo} {S : List Value} {h : Hp} {b : Nat} : Run 53 51 L (.ref b :: S) h = (gf h 6 1 b).bind fun v => Run 53 54 L (v :: S) h := Rb rfl fun _ => rfl
theorem e53_54 {L : Lo} {S : List Value} {h : Hp} {x z : Int32} : Run 53 54 L (.int z :: .int x :: S) h = if z ≤ x then Run 53 71 L S h else Run 53 57 L S h := Rbr (c := cnd .ge x z = true) (off := 17) rfl rfl cnd_ge
theorem e53_57 {L : Lo} {S : List Value} {h : Hp} {x0 x1 x2 x3 x4 : Option Value} {v : Int32} : Run 53 57 (x0 :: x1 :: x2 :: x3 :: x4 :: some (.int v) :: L) S h = Run 53 59 (x0 :: x1 :: x2 :: x3 :: x4 :: some (.int v) :: L) (.int v :: S) h := Rg rfl
theorem e53_59 {L : Lo} {S : List Value} {h : Hp} {x : Int32} : Run 53 59 L (.int x :: S) h = if x < 0 then Run 53 71 L S h else Run 53 62 L S h := Rbr (c := cnd .lt x 0 = true) (off := 12) rfl rfl cnd_lt
theorem e53_62 {L : Lo} {S : List Value} {h : Hp} {x0 x1 x2 x3 x4 : Option Value} {v : Int32} : Run 53 62 (x0 :: x1 :: x2 :: x3 :: x4 :: some (.int v) :: L) S h = Run 53 64 (x0 :: x1 :: x2 :: x3 :: x4 :: some (.int v) :: L) (.int v :: S) h := Rg rfl
theorem e53_64 {L : Lo} {S : List Value} {h : Hp} {v : Nat} : Run 53 64 (some (.ref v) :: L) S h = Run 53 65 (some (.ref v) :: L) (.ref v :: S) h := Rg rfl
theorem e53_65 {L : Lo} {S : List Value} {h : Hp} {b : Nat} : Run 53 65 L (.ref b :: S) h = (gf h 6 0 b).bind fun v => Run 53 68 L (v :: S) h := Rb rfl fun _ => rfl
theorem e53_68 {L : Lo} {S : List Value} {h : Hp} {x z : Int32} : Run 53 68 L (.int z :: .int x :: S) h = if x < z then Run 53 73 L S h else Run 53 71 L S h := Rbr (c := cnd .lt x z = true) (off := 5) rfl rfl cnd_lt
theorem e53_71 {L : Lo} {S : List Value} {h : Hp} : Run 53 71 L S h = Run 53 72 L (.int (-1) :: S) h := Rg rfl
theorem e53_72 {L : Lo} {h : Hp} {x : Int32} : Run 53 72 L [.int x] h = some (.inl (some (.int x)), h) := Rd (if_pos (c := narrow .int (.int x) = .int x) rfl)
theorem e53_73 {L : Lo} {S : List Value} {h : Hp} {x0 x1 x2 x3 : Option Value} {v : Int32} : Run 53 73 (x0 :: x1 :: x2 :: x3 :: some (.int v) :: L) S h = Run 53 75 (x0 :: x1 :: x2 :: x3 :: some (.int v) :: L) (.int v :: S) h := Rg rfl
theorem e53_75 {L : Lo} {S : List Value} {h : Hp} {v : Nat} : Run 53 75 (some (.ref v) :: L) S h = Run 53 76 (some (.ref v) :: L) (.ref v :: S) h := Rg rfl
theorem e53_76 {L : Lo} {S : List Value} {h : Hp} {b : Nat} : Run 53 76 L (.ref b :: S) h = (gf h 6 0 b).bind fun v => Run 53 79 L (v :: S) h := Rb rfl fun _ => rfl
theorem e53_79 {L : Lo} {S : List Value} {h : Hp} {x z : Int32} : Run 53 79 L (.int z :: .int x :: S) h = Run 53 80 L (.int (x * z) :: S) h := Rg rfl
theorem e53_80 {L : Lo} {S : List Value} {h : Hp} {x0 x1 x2 x3 x4 : Option Value} {v : Int32} : Run 53 80 (x0 :: x1 :: x2 :: x3 :: x4 :: some (.int v) :: L) S h = Run 53 82 (x0 :: x1 :: x2 :: x3 :: x4 :: some (.int v) :: L) (.int v :: S) h := Rg rfl
theorem e53_82 {L : Lo} {S : List Value} {h : Hp} {x z : Int32} : Run 53 82 L (.int z :: .int x :: S) h = Run 53 83 L (.int (x + z) :: S) h := Rg rfl
theorem e53_83 {L : Lo} {h : Hp} {x : Int32} : Run 53 83 L [.int x] h = some (.inl (some (.int x)), h) := Rd (if_pos (c := narrow .int (.int x) = .int x) rfl)
theorem e54_0 {L : Lo} {S : List Value} {h : Hp} {v : Nat} : Run 54 0 (some (.ref v) :: L) S h = Run 54 1 (some (.ref v) :: L) (.ref v :: S) h := Rg rfl
theorem e54_1 {L : Lo} {S : List Value} {h : Hp} {x0 x1 : Option Value} {v : Int32} : Run 54 1 (x0 :: x1 :: some (.int v) :: L) S h = Run 54 2 (x0 :: x1 :: some (.int v) :: L) (.int v :: S) h := Rg rfl
set_option maxRecDepth 100000 in
theorem e54_2 {L : Lo} {h : Hp} {a1 : Int32} {a0 : Nat} (hO : isO h a0 6 = true) : Run 54 2 L [.int a1, .ref a0] h = (Run 46 0 [some (.ref a0), some (.int a1)] [] h).bind fun o => aft 54 2 5 L [] o := Rcv (c := 46) (As := [.int a1]) (S' := []) (pc' := 5) 6 rfl hO
theorem e54_5 {L : Lo} {S : List Value} {h : Hp} {v : Nat} : Run 54 5 (some (.ref v) :: L) S h = Run 54 6 (some (.ref v) :: L) (.ref v :: S) h := Rg rfl
theorem e54_6 {L : Lo} {S : List Value} {h : Hp} {x0 : Option Value} {v : Int32} : Run 54 6 (x0 :: some (.int v) :: L) S h = Run 54 7 (x0 :: some (.int v) :: L) (.int v :: S) h := Rg rfl
set_option maxRecDepth 100000 in
theorem e54_7 {L : Lo} {h : Hp} {a2 : Int32} {a1 : Nat} {a0 : Int32} (hO : isO h a1 6 = true) : Run 54 7 L [.int a2, .ref a1, .int a0] h = (Run 46 0 [some (.ref a1), some (.int a2)] [] h).bind fun o => aft 54 7 10 L [.int a0] o := Rcv (c := 46) (As := [.int a2]) (S' := [.int a0]) (pc' := 10) 6 rfl hO
theorem e54_10 {L : Lo} {S : List Value} {h : Hp} {x z : Int32} : Run 54 10 L (.int z :: .int x :: S) h = Run 54 11 L (.int (x - z) :: S) h := Rg rfl
theorem e54_11 {L : Lo} {S : List Value} {h : Hp} {x0 x1 x2 : Option Value} {y : Option Value} {v : Int32} : Run 54 11 (x0 :: x1 :: x2 :: y :: L) (.int v :: S) h = Run 54 12 (x0 :: x1 :: ck x2 :: some (.int v) :: L) S h := Rg rfl
theorem e54_12 {L : Lo} {S : List Value} {h : Hp} {v : Nat} : Run 54 12 (some (.ref v) :: L) S h = Run 54 13 (some (.ref v) :: L) (.ref v :: S) h := Rg rfl
theorem e54_13 {L : Lo} {S : List Value} {h : Hp} {x0 x1 : Option Value} {v : Int32} : Run 54 13 (x0 :: x1 :: some (.int v) :: L) S h = Run 54 14 (x0 :: x1 :: some (.int v) :: L) (.int v :: S) h := Rg rfl
set_option maxRecDepth 100000 in
theorem e54_14 {L : Lo} {h : Hp} {a1 : Int32} {a0 : Nat} (hO : isO h a0 6 = true) : Run 54 14 L [.int a1, .ref a0] h = (Run 47 0 [some (.ref a0), some (.int a1)] [] h).bind fun o => aft 54 14 17 L [] o := Rcv (c := 47) (As := [.int a1]) (S' := []) (pc' := 17) 6 rfl hO
theorem e54_17 {L : Lo} {S : List Value} {h : Hp} {v : Nat} : Run 54 17 (some (.ref v) :: L) S h = Run 54 18 (some (.ref v) :: L) (.ref v :: S) h := Rg rfl
theorem e54_18 {L : Lo} {S : List Value} {h : Hp} {x0 : Option Value} {v : Int32} : Run 54 18 (x0 :: some (.int v) :: L) S h = Run 54 19 (x0 :: some (.int v) :: L) (.int v :: S) h := Rg rfl
set_option maxRecDepth 100000 in
theorem e54_19 {L : Lo} {h : Hp} {a2 : Int32} {a1 : Nat} {a0 : Int32} (hO : isO h a1 6 = true) : Run 54 19 L [.int a2, .ref a1, .int a0] h = (Run 47 0 [some (.ref a1), some (.int a2)] [] h).bind fun o => aft 54 19 22 L [.int a0] o := Rcv (c := 47) (As := [.int a2]) (S' := [.int a0]) (pc' := 22) 6 rfl hO
theorem e54_22 {L : Lo} {S : List Value} {h : Hp} {x z : Int32} : Run 54 22 L (.int z :: .int x :: S) h = Run 54 23 L (.int (x - z) :: S) h := Rg rfl
theorem e54_23 {L : Lo} {S : List Value} {h : Hp} {x0 x1 x2 x3 : Option Value} {y : Option Value} {v : Int32} : Run 54 23 (x0 :: x1 :: x2 :: x3 :: y :: L) (.int v :: S) h = Run 54 25 (x0 :: x1 :: x2 :: ck x3 :: some (.int v) :: L) S h := Rg rfl
theorem e54_25 {L : Lo} {S : List Value} {h : Hp} {x0 x1 x2 : Option Value} {v : Int32} : Run 54 25 (x0 :: x1 :: x2 :: some (.int v) :: L) S h = Run 54 26 (x0 :: x1 :: x2 :: some (.int v) :: L) (.int v :: S) h := Rg rfl
theorem e54_26 {L : Lo} {S : List Value} {h : Hp} {x0 x1 x2 x3 : Option Value} {v : Int32} : Run 54 26 (x0 :: x1 :: x2 :: x3 :: some (.int v) :: L) S h = Run 54 28 (x0 :: x1 :: x2 :: x3 :: some (.int v) :: L) (.int v :: S) h := Rg rfl
theorem e54_28 {L : Lo} {S : List Value} {h : Hp} {x z : Int32} : Run 54 28 L (.int z :: .int x :: S) h = Run 54 29 L (.int (x + z) :: S) h := Rg rfl
set_option maxRecDepth 100000 in
theorem e54_29 {L : Lo} {h : Hp} {a0 : Int32} : Run 54 29 L [.int a0] h = (Run 115 0 [some (.int a0)] [] h).bind fun o => aft 54 29 32 L [] o := Rc (c := 115) (As := [.int a0]) (S' := []) (pc' := 32) rfl
theorem e54_32 {L : Lo} {S : List Value} {h : Hp} {x0 x1 x2 : Option Value} {v : Int32} : Run 54 32 (x0 :: x1 :: x2 :: some (.int v) :: L) S h = Run 54 33 (x0 :: x1 :: x2 :: some (.int v) :: L) (.int v :: S) h := Rg rfl
set_option maxRecDepth 100000 in
theorem e54_33 {L : Lo} {h : Hp} {a1 : Int32} {a0 : Int32} : Run 54 33 L [.int a1, .int a0] h = (Run 115 0 [some (.int a1)] [] h).bind fun o => aft 54 33 36 L [.int a0] o := Rc (c := 115) (As := [.int a1]) (S' := [.int a0]) (pc' := 36) rfl
theorem e54_36 {L : Lo} {S : List Value} {h : Hp} {x0 x1 x2 x3 : Option Value} {v : Int32} : Run 54 36 (x0 :: x1 :: x2 :: x3 :: some (.int v) :: L) S h = Run 54 38 (x0 :: x1 :: x2 :: x3 :: some (.int v) :: L) (.int v :: S) h := Rg rfl
set_option maxRecDepth 100000 in
theorem e54_38 {L : Lo} {h : Hp} {a2 : Int32} {a1 : Int32} {a0 : Int32} : Run 54 38 L [.int a2, .int a1, .int a0] h = (Run 115 0 [some (.int a2)] [] h).bind fun o => aft 54 38 41 L [.int a1, .int a0] o := Rc (c := 115) (As := [.int a2]) (S' := [.int a1, .int a0]) (pc' := 41) rfl
set_option maxRecDepth 100000 in
theorem e54_41 {L : Lo} {h : Hp} {a2 : Int32} {a1 : Int32} {a0 : Int32} : Run 54 41 L [.int a2, .int a1, .int a0] h = (Run 116 0 [some (.int a1), some (.int a2)] [] h).bind fun o => aft 54 41 44 L [.int a0] o := Rc (c := 116) (As := [.int a1, .int a2]) (S' := [.int a0]) (pc' := 44) rfl
set_option maxRecDepth 100000 in
theorem e54_44 {L : Lo} {h : Hp} {a1 : Int32} {a0 : Int32} : Run 54 44 L [.int a1, .int a0] h = (Run 116 0 [some (.int a0), some (.int a1)] [] h).bind fun o => aft 54 44 47 L [] o := Rc (c := 116) (As := [.int a0, .int a1]) (S' := []) (pc' := 47) rfl
theorem e54_47 {L : Lo} {h : Hp} {x : Int32} : Run 54 47 L [.int x] h = some (.inl (some (.int x)), h) := Rd (if_pos (c := narrow .int (.int x) = .int x) rfl)
theorem e55_0 {L : Lo} {S : List Value} {h : Hp} {v : Nat} : Run 55 0 (some (.ref v) :: L) S h = Run 55 1 (some (.ref v) :: L) (.ref v :: S) h := Rg rfl
theorem e55_1 {L : Lo} {S : List Value} {h : Hp} {x0 x1 : Option Value} {v : Int32} : Run 55 1 (x0 :: x1 :: some (.int v) :: L) S h = Run 55 2 (x0 :: x1 :: some (.int v) :: L) (.int v :: S) h := Rg rfl
set_option maxRecDepth 100000 in
theorem e55_2 {L : Lo} {h : Hp} {a1 : Int32} {a0 : Nat} (hO : isO h a0 6 = true) : Run 55 2 L [.int a1, .ref a0] h = (Run 46 0 [some (.ref a0), some (.int a1)] [] h).bind fun o => aft 55 2 5 L [] o := Rcv (c := 46) (As := [.int a1]) (S' := []) (pc' := 5) 6 rfl hO
theorem e55_5 {L : Lo} {S : List Value} {h : Hp} {v : Nat} : Run 55 5 (some (.ref v) :: L) S h = Run 55 6 (some (.ref v) :: L) (.ref v :: S) h := Rg rfl
theorem e55_6 {L : Lo} {S : List Value} {h : Hp} {x0 : Option Value} {v : Int32} : Run 55 6 (x0 :: some (.int v) :: L) S h = Run 55 7 (x0 :: some (.int v) :: L) (.int v :: S) h := Rg rfl
set_option maxRecDepth 100000 in
theorem e55_7 {L : Lo} {h : Hp} {a2 : Int32} {a1 : Nat} {a0 : Int32} (hO : isO h a1 6 = true) : Run 55 7 L [.int a2, .ref a1, .int a0] h = (Run 46 0 [some (.ref a1), some (.int a2)] [] h).bind fun o => aft 55 7 10 L [.int a0] o := Rcv (c := 46) (As := [.int a2]) (S' := [.int a0]) (pc' := 10) 6 rfl hO
theorem e55_10 {L : Lo} {S : List Value} {h : Hp} {x z : Int32} : Run 55 10 L (.int z :: .int x :: S) h = Run 55 11 L (.int (x - z) :: S) h := Rg rfl
theorem e55_11 {L : Lo} {S : List Value} {h : Hp} {x0 x1 x2 : Option Value} {y : Option Value} {v : Int32} : Run 55 11 (x0 :: x1 :: x2 :: y :: L) (.int v :: S) h = Run 55 12 (x0 :: x1 :: ck x2 :: some (.int v) :: L) S h := Rg rfl
theorem e55_12 {L : Lo} {S : List Value} {h : Hp} {v : Nat} : Run 55 12 (some (.ref v) :: L) S h = Run 55 13 (some (.ref v) :: L) (.ref v :: S) h := Rg rfl
theorem e55_13 {L : Lo} {S : List Value} {h : Hp} {x0 x1 : Option Value} {v : Int32} : Run 55 13 (x0 :: x1 :: some (.int v) :: L) S h = Run 55 14 (x0 :: x1 :: some (.int v) :: L) (.int v :: S) h := Rg rfl
set_option maxRecDepth 100000 in
theorem e55_14 {L : Lo} {h : Hp} {a1 : Int32} {a0 : Nat} (hO : isO h a0 6 = true) : Run 55 14 L [.int a1, .ref a0] h = (Run 47 0 [some (.ref a0), some (.int a1)] [] h).bind fun o => aft 55 14 17 L [] o := Rcv (c := 47) (As := [.int a1]) (S' := []) (pc' := 17) 6 rfl hO
theorem e55_17 {L : Lo} {S : List Value} {h : Hp} {v : Nat} : Run 55 17 (some (.ref v) :: L) S h = Run 55 18 (some (.ref v) :: L) (.ref v :: S) h := Rg rfl
theorem e55_18 {L : Lo} {S : List Value} {h : Hp} {x0 : Option Value} {v : Int32} : Run 55 18 (x0 :: some (.int v) :: L) S h = Run 55 19 (x0 :: some (.int v) :: L) (.int v :: S) h := Rg rfl
set_option maxRecDepth 100000 in
theorem e55_19 {L : Lo} {h : Hp} {a2 : Int32} {a1 : Nat} {a0 : Int32} (hO : isO h a1 6 = true) : Run 55 19 L [.int a2, .ref a1, .int a0] h = (Run 47 0 [some (.ref a1), some (.int a2)] [] h).bind fun o => aft 55 19 22 L [.int a0] o := Rcv (c := 47) (As := [.int a2]) (S' := [.int a0]) (pc' := 22) 6 rfl hO
theorem e55_22 {L : Lo} {S : List Value} {h : Hp} {x z : Int32} : Run 55 22 L (.int z :: .int x :: S) h = Run 55 23 L (.int (x - z) :: S) h := Rg rfl
theorem e55_23 {L : Lo} {S : List Value} {h : Hp} {x0 x1 x2 x3 : Option Value} {y : Option Value} {v : Int32} : Run 55 23 (x0 :: x1 :: x2 :: x3 :: y :: L) (.int v :: S) h = Run 55 25 (x0 :: x1 :: x2 :: ck x3 :: some (.int v) :: L) S h := Rg rfl
theorem e55_25 {L : Lo} {S : List Value} {h : Hp} {x0 x1 x2 : Option Value} {v : Int32} : Run 55 25 (x0 :: x1 :: x2 :: some (.int v) :: L) S h = Run 55 26 (x0 :: x1 :: x2 :: some (.int v) :: L) (.int v :: S) h := Rg rfl
theorem e55_26 {L : Lo} {S : List Value} {h : Hp} {x : Int32} : Run 55 26 L (.int x :: S) h = if x = 0 then Run 55 29 L S h else Run 55 36 L S h := RbrN (c := cnd .ne x 0 = true) (off := 10) rfl rfl cnd_ne
theorem e55_29 {L : Lo} {S : List Value} {h : Hp} {x0 x1 x2 x3 : Option Value} {v : Int32} : Run 55 29 (x0 :: x1 :: x2 :: x3 :: some (.int v) :: L) S h = Run 55 31 (x0 :: x1 :: x2 :: x3 :: some (.int v) :: L) (.int v :: S) h := Rg rfl
theorem e55_31 {L : Lo} {S : List Value} {h : Hp} {x : Int32} : Run 55 31 L (.int x :: S) h = if x = 0 then Run 55 34 L S h else Run 55 36 L S h := RbrN (c := cnd .ne x 0 = true) (off := 5) rfl rfl cnd_ne
theorem e55_34 {L : Lo} {S : List Value} {h : Hp} : Run 55 34 L S h = Run 55 35 L (.int (-1) :: S) h := Rg rfl
theorem e55_35 {L : Lo} {h : Hp} {x : Int32} : Run 55 35 L [.int x] h = some (.inl (some (.int x)), h) := Rd (if_pos (c := narrow .int (.int x) = .int x) rfl)
theorem e55_36 {L : Lo} {S : List Value} {h : Hp} {x0 x1 x2 : Option Value} {v : Int32} : Run 55 36 (x0 :: x1 :: x2 :: some (.int v) :: L) S h = Run 55 37 (x0 :: x1 :: x2 :: some (.int v) :: L) (.int v :: S) h := Rg rfl
theorem e55_37 {L : Lo} {S : List Value} {h : Hp} {x : Int32} : Run 55 37 L (.int x :: S) h = if x = 0 then Run 55 52 L S h else Run 55 40 L S h := Rbr (c := cnd .eq x 0 = true) (off := 15) rfl rfl cnd_eq
theorem e55_40 {L : Lo} {S : List Value} {h : Hp} {x0 x1 x2 x3 : Option Value} {v : Int32} : Run 55 40 (x0 :: x1 :: x2 :: x3 :: some (.int v) :: L) S h = Run 55 42 (x0 :: x1 :: x2 :: x3 :: some (.int v) :: L) (.int v :: S) h := Rg rfl
theorem e55_42 {L : Lo} {S : List Value} {h : Hp} {x : Int32} : Run 55 42 L (.int x :: S) h = if x = 0 then Run 55 52 L S h else Run 55 45 L S h := Rbr (c := cnd .eq x 0 = true) (off := 10) rfl rfl cnd_eq
theorem e55_45 {L : Lo} {S : List Value} {h : Hp} {x0 x1 x2 : Option Value} {v : Int32} : Run 55 45 (x0 :: x1 :: x2 :: some (.int v) :: L) S h = Run 55 46 (x0 :: x1 :: x2 :: some (.int v) :: L) (.int v :: S) h := Rg rfl
theorem e55_46 {L : Lo} {S : List Value} {h : Hp} {x0 x1 x2 x3 : Option Value} {v : Int32} : Run 55 46 (x0 :: x1 :: x2 :: x3 :: some (.int v) :: L) S h = Run 55 48 (x0 :: x1 :: x2 :: x3 :: some (.int v) :: L) (.int v :: S) h := Rg rfl
theorem e55_48 {L : Lo} {S : List Value} {h : Hp} {x z : Int32} : Run 55 48 L (.int z :: .int x :: S) h = Run 55 49 L (.int (x + z) :: S) h := Rg rfl
theorem e55_49 {L : Lo} {S : List Value} {h : Hp} {x : Int32} : Run 55 49 L (.int x :: S) h = if x = 0 then Run 55 52 L S h else Run 55 56 L S h := RbrN (c := cnd .ne x 0 = true) (off := 7) rfl rfl cnd_ne
theorem e55_52 {L : Lo} {S : List Value} {h : Hp} : Run 55 52 L S h = Run 55 53 L (.int 1 :: S) h := Rg rfl
theorem e55_53 {L : Lo} {S : List Value} {h : Hp} : Run 55 53 L S h = Run 55 57 L S h := Rg rfl
theorem e55_56 {L : Lo} {S : List Value} {h : Hp} : Run 55 56 L S h = Run 55 57 L (.int 0 :: S) h := Rg rfl
theorem e55_57 {L : Lo} {S : List Value} {h : Hp} {x0 x1 x2 x3 x4 : Option Value} {y : Option Value} {v : Int32} : Run 55 57 (x0 :: x1 :: x2 :: x3 :: x4 :: y :: L) (.int v :: S) h = Run 55 59 (x0 :: x1 :: x2 :: x3 :: ck x4 :: some (.int v) :: L) S h := Rg rfl
theorem e55_59 {L : Lo} {S : List Value} {h : Hp} {x0 x1 x2 : Option Value} {v : Int32} : Run 55 59 (x0 :: x1 :: x2 :: some (.int v) :: L) S h = Run 55 60 (x0 :: x1 :: x2 :: some (.int v) :: L) (.int v :: S) h := Rg rfl
theorem e55_60 {L : Lo} {S : List Value} {h : Hp} {x0 x1 x2 x3 : Option Value} {v : Int32} : Run 55 60 (x0 :: x1 :: x2 :: x3 :: some (.int v) :: L) S h = Run 55 62 (x0 :: x1 :: x2 :: x3 :: some (.int v) :: L) (.int v :: S) h := Rg rfl
set_option maxRecDepth 100000 in
theorem e55_62 {L : Lo} {h : Hp} {a1 : Int32} {a0 : Int32} : Run 55 62 L [.int a1, .int a0] h = (Run 56 0 [some (.int a0), some (.int a1)] [] h).bind fun o => aft 55 62 65 L [] o := Rc (c := 56) (As := [.int a0, .int a1]) (S' := []) (pc' := 65) rfl
theorem e55_65 {L : Lo} {S : List Value} {h : Hp} {x0 x1 x2 x3 x4 : Option Value} {v : Int32} : Run 55 65 (x0 :: x1 :: x2 :: x3 :: x4 :: some (.int v) :: L) S h = Run 55 67 (x0 :: x1 :: x2 :: x3 :: x4 :: some (.int v) :: L) (.int v :: S) h := Rg rfl
theorem e55_67 {L : Lo} {S : List Value} {h : Hp} {x : Int32} : Run 55 67 L (.int x :: S) h = if x = 0 then Run 55 75 L S h else Run 55 70 L S h := Rbr (c := cnd .eq x 0 = true) (off := 8) rfl rfl cnd_eq
theorem e55_70 {L : Lo} {S : List Value} {h : Hp} : Run 55 70 L S h = Run 55 72 L (.int 10 :: S) h := Rg rfl
theorem e55_72 {L : Lo} {S : List Value} {h : Hp} : Run 55 72 L S h = Run 55 76 L S h := Rg rfl
theorem e55_75 {L : Lo} {S : List Value} {h : Hp} : Run 55 75 L S h = Run 55 76 L (.int 0 :: S) h := Rg rfl
theorem e55_76 {L : Lo} {S : List Value} {h : Hp} {x z : Int32} : Run 55 76 L (.int z :: .int x :: S) h = Run 55 77 L (.int (x + z) :: S) h := Rg rfl
theorem e55_77 {L : Lo} {h : Hp} {x : Int32} : Run 55 77 L [.int x] h = some (.inl (some (.int x)), h) := Rd (if_pos (c := narrow .int (.int x) = .int x) rfl)
theorem e56_0 {L : Lo} {S : List Value} {h : Hp} {v : Int32} : Run 56 0 (some (.int v) :: L) S h = Run 56 1 (some (.int v) :: L) (.int v :: S) h := Rg rfl
theorem e56_1 {L : Lo} {S : List Value} {h : Hp} {x : Int32} : Run 56 1 L (.int x :: S) h = if x < 0 then Run 56 10 L S h else Run 56 4 L S h := Rbr (c := cnd .lt x 0 = true) (off := 9) rfl rfl cnd_lt
theorem e56_4 {L : Lo} {S : List Value} {h : Hp} {x0 : Option Value} {v : Int32} : Run 56 4 (x0 :: some (.int v) :: L) S h = Run 56 5 (x0 :: some (.int v) :: L) (.int v :: S) h := Rg rfl
theorem e56_5 {L : Lo} {S : List Value} {h : Hp} {x : Int32} : Run 56 5 L (.int x :: S) h = if x ≤ 0 then Run 56 10 L S h else Run 56 8 L S h := Rbr (c := cnd .le x 0 = true) (off := 5) rfl rfl cnd_le
theorem e56_8 {L : Lo} {S : List Value} {h : Hp} : Run 56 8 L S h = Run 56 9 L (.int 0 :: S) h := Rg rfl
theorem e56_9 {L : Lo} {h : Hp} {x : Int32} : Run 56 9 L [.int x] h = some (.inl (some (.int x)), h) := Rd (if_pos (c := narrow .int (.int x) = .int x) rfl)
theorem e56_10 {L : Lo} {S : List Value} {h : Hp} {x0 : Option Value} {v : Int32} : Run 56 10 (x0 :: some (.int v) :: L) S h = Run 56 11 (x0 :: some (.int v) :: L) (.int v :: S) h := Rg rfl
theorem e56_11 {L : Lo} {S : List Value} {h : Hp} {x : Int32} : Run 56 11 L (.int x :: S) h = if 0 < x then Run 56 22 L S h else Run 56 14 L S h := Rbr (c := cnd .gt x 0 = true) (off := 11) rfl rfl cnd_gt
theorem e56_14 {L : Lo} {S : List Value} {h : Hp} {v : Int32} : Run 56 14 (some (.int v) :: L) S h = Run 56 15 (some (.int v) :: L) (.int v :: S) h := Rg rfl
theorem e56_15 {L : Lo} {S : List Value} {h : Hp} {x0 : Option Value} {v : Int32} : Run 56 15 (x0 :: some (.int v) :: L) S h = Run 56 16 (x0 :: some (.int v) :: L) (.int v :: S) h := Rg rfl
theorem e56_16 {L : Lo} {S : List Value} {h : Hp} {x z : Int32} : Run 56 16 L (.int z :: .int x :: S) h = Run 56 17 L (.int (x + z) :: S) h := Rg rfl
theorem e56_17 {L : Lo} {S : List Value} {h : Hp} {x : Int32} : Run 56 17 L (.int x :: S) h = if x ≤ 0 then Run 56 22 L S h else Run 56 20 L S h := Rbr (c := cnd .le x 0 = true) (off := 5) rfl rfl cnd_le
theorem e56_20 {L : Lo} {S : List Value} {h : Hp} : Run 56 20 L S h = Run 56 21 L (.int 1 :: S) h := Rg rfl
theorem e56_21 {L : Lo} {h : Hp} {x : Int32} : Run 56 21 L [.int x] h = some (.inl (some (.int x)), h) := Rd (if_pos (c := narrow .int (.int x) = .int x) rfl)
theorem e56_22 {L : Lo} {S : List Value} {h : Hp} {v : Int32} : Run 56 22 (some (.int v) :: L) S h = Run 56 23 (some (.int v) :: L) (.int v :: S) h := Rg rfl
theorem e56_23 {L : Lo} {S : List Value} {h : Hp} {x : Int32} : Run 56 23 L (.int x :: S) h = if x ≤ 0 then Run 56 28 L S h else Run 56 26 L S h := Rbr (c := cnd .le x 0 = true) (off := 5) rfl rfl cnd_le
theorem e56_26 {L : Lo} {S : List Value} {h : Hp} : Run 56 26 L S h = Run 56 27 L (.int 2 :: S) h := Rg rfl
theorem e56_27 {L : Lo} {h : Hp} {x : Int32} : Run 56 27 L [.int x] h = some (.inl (some (.int x)), h) := Rd (if_pos (c := narrow .int (.int x) = .int x) rfl)
theorem e56_28 {L : Lo} {S : List Value} {h : Hp} {x0 : Option Value} {v : Int32} : Run 56 28 (x0 :: some (.int v) :: L) S h = Run 56 29 (x0 :: some (.int v) :: L) (.int v :: S) h := Rg rfl
theorem e56_29 {L : Lo} {S : List Value} {h : Hp} {x : Int32} : Run 56 29 L (.int x :: S) h = if 0 ≤ x then Run 56 34 L S h else Run 56 32 L S h := Rbr (c := cnd .ge x 0 = true) (off := 5) rfl rfl cnd_ge
theorem e56_32 {L : Lo} {S : List Value} {h : Hp} : Run 56 32 L S h = Run 56 33 L (.int 3 :: S) h := Rg rfl
theorem e56_33 {L : Lo} {h : Hp} {x : Int32} : Run 56 33 L [.int x] h = some (.inl (some (.int x)), h) := Rd (if_pos (c := narrow .int (.int x) = .int x) rfl)
theorem e56_34 {L : Lo} {S : List Value} {h : Hp} {v : Int32} : Run 56 34 (some (.int v) :: L) S h = Run 56 35 (some (.int v) :: L) (.int v :: S) h := Rg rfl
theorem e56_35 {L : Lo} {S : List Value} {h : Hp} {x0 : Option Value} {v : Int32} : Run 56 35 (x0 :: some (.int v) :: L) S h = Run 56 36 (x0 :: some (.int v) :: L) (.int v :: S) h := Rg rfl
theorem e56_36 {L : Lo} {S : List Value} {h : Hp} {x z : Int32} : Run 56 36 L (.int z :: .int x :: S) h = Run 56 37 L (.int (x + z) :: S) h := Rg rfl
theorem e56_37 {L : Lo} {S : List Value} {h : Hp} {x : Int32} : Run 56 37 L (.int x :: S) h = if 0 ≤ x then Run 56 44 L S h else Run 56 40 L S h := Rbr (c := cnd .ge x 0 = true) (off := 7) rfl rfl cnd_ge
theorem e56_40 {L : Lo} {S : List Value} {h : Hp} : Run 56 40 L S h = Run 56 41 L (.int 4 :: S) h := Rg rfl
theorem e56_41 {L : Lo} {S : List Value} {h : Hp} : Run 56 41 L S h = Run 56 45 L S h := Rg rfl
theorem e56_44 {L : Lo} {S : List Value} {h : Hp} : Run 56 44 L S h = Run 56 45 L (.int 5 :: S) h := Rg rfl
theorem e56_45 {L : Lo} {h : Hp} {x : Int32} : Run 56 45 L [.int x] h = some (.inl (some (.int x)), h) := Rd (if_pos (c := narrow .int (.int x) = .int x) rfl)
theorem e57_0 {L : Lo} {S : List Value} {h : Hp} {x0 : Option Value} {v : Int32} : Run 57 0 (x0 :: some (.int v) :: L) S h = Run 57 1 (x0 :: some (.int v) :: L) (.int v :: S) h := Rg rfl
theorem e57_1 {L : Lo} {S : List Value} {h : Hp} {v : Nat} : Run 57 1 (some (.ref v) :: L) S h = Run 57 2 (some (.ref v) :: L) (.ref v :: S) h := Rg rfl
theorem e57_2 {L : Lo} {S : List Value} {h : Hp} {b : Nat} : Run 57 2 L (.ref b :: S) h = (gf h 6 2 b).bind fun v => Run 57 5 L (v :: S) h := Rb rfl fun _ => rfl
set_option maxRecDepth 100000 in
theorem e57_5 {L : Lo} {h : Hp} {a1 : Int32} {a0 : Int32} : Run 57 5 L [.int a1, .int a0] h = (Run 58 0 [some (.int a0), some (.int a1), none] [] h).bind fun o => aft 57 5 8 L [] o := Rc (c := 58) (As := [.int a0, .int a1]) (S' := []) (pc' := 8) rfl
theorem e57_8 {L : Lo} {h : Hp} {x : Int32} : Run 57 8 L [.int x] h = some (.inl (some (.int x)), h) := Rd (if_pos (c := narrow .int (.int x) = .int x) rfl)
theorem e58_0 {L : Lo} {S : List Value} {h : Hp} {v : Int32} : Run 58 0 (some (.int v) :: L) S h = Run 58 1 (some (.int v) :: L) (.int v :: S) h := Rg rfl
theorem e58_1 {L : Lo} {S : List Value} {h : Hp} {x0 : Option Value} {v : Int32} : Run 58 1 (x0 :: some (.int v) :: L) S h = Run 58 2 (x0 :: some (.int v) :: L) (.int v :: S) h := Rg rfl
theorem e58_2 {L : Lo} {S : List Value} {h : Hp} {x z : Int32} : Run 58 2 L (.int z :: .int x :: S) h = Run 58 3 L (.int (x - z) :: S) h := Rg rfl
theorem e58_3 {L : Lo} {S : List Value} {h : Hp} : Run 58 3 L S h = Run 58 5 L (.int 6 :: S) h := Rg rfl
set_option maxRecDepth 100000 in
theorem e58_5 {L : Lo} {h : Hp} {a1 : Int32} {a0 : Int32} : Run 58 5 L [.int a1, .int a0] h = (Run 114 0 [some (.int a0), some (.int a1), none] [] h).bind fun o => aft 58 5 8 L [] o := Rc (c := 114) (As := [.int a0, .int a1]) (S' := []) (pc' := 8) rfl
theorem e58_8 {L : Lo} {S : List Value} {h : Hp} {x0 x1 : Option Value} {y : Option Value} {v : Int32} : Run 58 8 (x0 :: x1 :: y :: L) (.int v :: S) h = Run 58 9 (x0 :: ck x1 :: some (.int v) :: L) S h := Rg rfl
theorem e58_9 {L : Lo} {S : List Value} {h : Hp} {x0 x1 : Option Value} {v : Int32} : Run 58 9 (x0 :: x1 :: some (.int v) :: L) S h = Run 58 10 (x0 :: x1 :: some (.int v) :: L) (.int v :: S) h := Rg rfl
theorem e58_10 {L : Lo} {S : List Value} {h : Hp} : Run 58 10 L S h = Run 58 12 L (.int 6 :: S) h := Rg rfl
theorem e58_12 {L : Lo} {S : List Value} {h : Hp} {x0 x1 : Option Value} {v : Int32} : Run 58 12 (x0 :: x1 :: some (.int v) :: L) S h = Run 58 13 (x0 :: x1 :: some (.int v) :: L) (.int v :: S) h := Rg rfl
theorem e58_13 {L : Lo} {S : List Value} {h : Hp} {x z : Int32} : Run 58 13 L (.int z :: .int x :: S) h = Run 58 14 L (.int (x - z) :: S) h := Rg rfl
set_option maxRecDepth 100000 in
theorem e58_14 {L : Lo} {h : Hp} {a1 : Int32} {a0 : Int32} : Run 58 14 L [.int a1, .int a0] h = (Run 117 0 [some (.int a0), some (.int a1)] [] h).bind fun o => aft 58 14 17 L [] o := Rc (c := 117) (As := [.int a0, .int a1]) (S' := []) (pc' := 17) rfl
theorem e58_17 {L : Lo} {h : Hp} {x : Int32} : Run 58 17 L [.int x] h = some (.inl (some (.int x)), h) := Rd (if_pos (c := narrow .int (.int x) = .int x) rfl)
theorem e59_0 {L : Lo} {S : List Value} {h : Hp} {v : Int32} : Run 59 0 (some (.int v) :: L) S h = Run 59 1 (some (.int v) :: L) (.int v :: S) h := Rg rfl
theorem e59_1_0 {L : Lo} {S : List Value} {h : Hp} : Run 59 1 L (.int 0 :: S) h = Run 59 28 L S h := Rg rfl
theorem e59_1_1 {L : Lo} {S : List Value} {h : Hp} : Run 59 1 L (.int 1 :: S) h = Run 59 30 L S h := Rg rfl
theorem e59_1_2 {L : Lo} {S : List Value} {h : Hp} : Run 59 1 L (.int 2 :: S) h = Run 59 32 L S h := Rg rfl
theorem e59_1_d {L : Lo} {S : List Value} {h : Hp} {x : Int32} (hx : x.toInt < 0 ∨ 2 < x.toInt) : Run 59 1 L (.int x :: S) h = Run 59 34 L S h := Rg (if_pos hx)
theorem e59_28 {L : Lo} {S : List Value} {h : Hp} : Run 59 28 L S h = Run 59 29 L (.int 2 :: S) h := Rg rfl
theorem e59_29 {L : Lo} {h : Hp} {x : Int32} : Run 59 29 L [.int x] h = some (.inl (some (.int x)), h) := Rd (if_pos (c := narrow .int (.int x) = .int x) rfl)
theorem e59_30 {L : Lo} {S : List Value} {h : Hp} : Run 59 30 L S h = Run 59 31 L (.int 3 :: S) h := Rg rfl
theorem e59_31 {L : Lo} {h : Hp} {x : Int32} : Run 59 31 L [.int x] h = some (.inl (some (.int x)), h) := Rd (if_pos (c := narrow .int (.int x) = .int x) rfl)
theorem e59_32 {L : Lo} {S : List Value} {h : Hp} : Run 59 32 L S h = Run 59 33 L (.int 1 :: S) h := Rg rfl
theorem e59_33 {L : Lo} {h : Hp} {x : Int32} : Run 59 33 L [.int x] h = some (.inl (some (.int x)), h) := Rd (if_pos (c := narrow .int (.int x) = .int x) rfl)
theorem e59_34 {L : Lo} {S : List Value} {h : Hp} : Run 59 34 L S h = Run 59 35 L (.int 0 :: S) h := Rg rfl
theorem e59_35 {L : Lo} {h : Hp} {x : Int32} : Run 59 35 L [.int x] h = some (.inl (some (.int x)), h) := Rd (if_pos (c := narrow .int (.int x) = .int x) rfl)
theorem e60_0 {L : Lo} {S : List Value} {h : Hp} {x0 : Option Value} {v : Nat} : Run 60 0 (x0 :: some (.ref v) :: L) S h = Run 60 1 (x0 :: some (.ref v) :: L) (.ref v :: S) h := Rg rfl
theorem e60_1 {L : Lo} {S : List Value} {h : Hp} {b : Nat} : Run 60 1 L (.ref b :: S) h = (gf h 7 2 b).bind fun v => Run 60 4 L (v :: S) h := Rb rfl fun _ => rfl
theorem e60_4 {L : Lo} {S : List Value} {h : Hp} {x0 x1 : Option Value} {v : Int32} : Run 60 4 (x0 :: x1 :: some (.int v) :: L) S h = Run 60 5 (x0 :: x1 :: some (.int v) :: L) (.int v :: S) h := Rg rfl
set_option maxRecDepth 100000 in
theorem e60_5 {L : Lo} {h : Hp} {a1 : Int32} {a0 : Int32} : Run 60 5 L [.int a1, .int a0] h = (Run 58 0 [some (.int a0), some (.int a1), none] [] h).bind fun o => aft 60 5 8 L [] o := Rc (c := 58) (As := [.int a0, .int a1]) (S' := []) (pc' := 8) rfl
set_option maxRecDepth 100000 in
theorem e60_8 {L : Lo} {h : Hp} {a0 : Int32} : Run 60 8 L [.int a0] h = (Run 59 0 [some (.int a0)] [] h).bind fun o => aft 60 8 11 L [] o := Rc (c := 59) (As := [.int a0]) (S' := []) (pc' := 11) rfl
theorem e60_11 {L : Lo} {S : List Value} {h : Hp} {x0 x1 x2 : Option Value} {y : Option Value} {v : Int32} : Run 60 11 (x0 :: x1 :: x2 :: y :: L) (.int v :: S) h = Run 60 12 (x0 :: x1 :: ck x2 :: some (.int v) :: L) S h := Rg rfl
theorem e60_12 {L : Lo} {S : List Value} {h : Hp} {x0 x1 x2 : Option Value} {v : Int32} : Run 60 12 (x0 :: x1 :: x2 :: some (.int v) :: L) S h = Run 60 13 (x0 :: x1 :: x2 :: some (.int v) :: L) (.int v :: S) h := Rg rfl
theorem e60_13 {L : Lo} {S : List Value} {h : Hp} {v : Nat} : Run 60 13 (some (.ref v) :: L) S h = Run 60 14 (some (.ref v) :: L) (.ref v :: S) h := Rg rfl
theorem e60_14 {L : Lo} {S : List Value} {h : Hp} {b : Nat} : Run 60 14 L (.ref b :: S) h = (gf h 6 3 b).bind fun v => Run 60 17 L (v :: S) h := Rb rfl fun _ => rfl
theorem e60_17 {L : Lo} {S : List Value} {h : Hp} {x z : Int32} : Run 60 17 L (.int z :: .int x :: S) h = Run 60 18 L (.int (x * z) :: S) h := Rg rfl
theorem e60_18 {L : Lo} {S : List Value} {h : Hp} {x0 : Option Value} {v : Nat} : Run 60 18 (x0 :: some (.ref v) :: L) S h = Run 60 19 (x0 :: some (.ref v) :: L) (.ref v :: S) h := Rg rfl
theorem e60_19 {L : Lo} {S : List Value} {h : Hp} {b : Nat} : Run 60 19 L (.ref b :: S) h = (gf h 7 4 b).bind fun v => Run 60 22 L (v :: S) h := Rb rfl fun _ => rfl
theorem e60_22 {L : Lo} {S : List Value} {h : Hp} {x z : Int32} : Run 60 22 L (.int z :: .int x :: S) h = Run 60 23 L (.int (x * z) :: S) h := Rg rfl
theorem e60_23 {L : Lo} {S : List Value} {h : Hp} : Run 60 23 L S h = Run 60 25 L (.int 19 :: S) h := Rg rfl
theorem e60_25 {L : Lo} {S : List Value} {h : Hp} {x z : Int32} : Run 60 25 L (.int z :: .int x :: S) h = Run 60 26 L (.int (x + z) :: S) h := Rg rfl
theorem e60_26 {L : Lo} {S : List Value} {h : Hp} : Run 60 26 L S h = Run 60 28 L (.int 20 :: S) h := Rg rfl
theorem e60_28 {L : Lo} {S : List Value} {h : Hp} {x z : Int32} (hz : ¬ z = 0) : Run 60 28 L (.int z :: .int x :: S) h = Run 60 29 L (.int (x / z) :: S) h := Rg (if_neg hz)
theorem e60_29 {L : Lo} {h : Hp} {x : Int32} : Run 60 29 L [.int x] h = some (.inl (some (.int x)), h) := Rd (if_pos (c := narrow .int (.int x) = .int x) rfl)
theorem e61_0 {L : Lo} {S : List Value} {h : Hp} : Run 61 0 L S h = Run 61 1 L (.int 0 :: S) h := Rg rfl
theorem e61_1 {L : Lo} {S : List Value} {h : Hp} {x0 x1 : Option Value} {y : Option Value} {v : Int32} : Run 61 1 (x0 :: x1 :: y :: L) (.int v :: S) h = Run 61 2 (x0 :: ck x1 :: some (.int v) :: L) S h := Rg rfl
theorem e61_2 {L : Lo} {S : List Value} {h : Hp} : Run 61 2 L S h = Run 61 3 L (.int 1 :: S) h := Rg rfl
theorem e61_3 {L : Lo} {S : List Value} {h : Hp} {x0 x1 x2 : Option Value} {y : Option Value} {v : Int32} : Run 61 3 (x0 :: x1 :: x2 :: y :: L) (.int v :: S) h = Run 61 4 (x0 :: x1 :: ck x2 :: some (.int v) :: L) S h := Rg rfl
theorem e61_4 {L : Lo} {S : List Value} {h : Hp} {x0 x1 x2 : Option Value} {v : Int32} : Run 61 4 (x0 :: x1 :: x2 :: some (.int v) :: L) S h = Run 61 5 (x0 :: x1 :: x2 :: some (.int v) :: L) (.int v :: S) h := Rg rfl
theorem e61_5 {L : Lo} {S : List Value} {h : Hp} : Run 61 5 L S h = Run 61 7 L (.int 6 :: S) h := Rg rfl
theorem e61_7 {L : Lo} {S : List Value} {h : Hp} {x z : Int32} : Run 61 7 L (.int z :: .int x :: S) h = if z ≤ x then Run 61 33 L S h else Run 61 10 L S h := Rbr (c := cnd .ge x z = true) (off := 26) rfl rfl cnd_ge
theorem e61_10 {L : Lo} {S : List Value} {h : Hp} {v : Nat} : Run 61 10 (some (.ref v) :: L) S h = Run 61 11 (some (.ref v) :: L) (.ref v :: S) h := Rg rfl
theorem e61_11 {L : Lo} {S : List Value} {h : Hp} {x0 : Option Value} {v : Nat} : Run 61 11 (x0 :: some (.ref v) :: L) S h = Run 61 12 (x0 :: some (.ref v) :: L) (.ref v :: S) h := Rg rfl
theorem e61_12 {L : Lo} {S : List Value} {h : Hp} {x0 x1 x2 : Option Value} {v : Int32} : Run 61 12 (x0 :: x1 :: x2 :: some (.int v) :: L) S h = Run 61 13 (x0 :: x1 :: x2 :: some (.int v) :: L) (.int v :: S) h := Rg rfl
set_option maxRecDepth 100000 in
theorem e61_13 {L : Lo} {h : Hp} {a2 : Int32} {a1 : Nat} {a0 : Nat} (hO : isO h a0 6 = true) : Run 61 13 L [.int a2, .ref a1, .ref a0] h = (Run 60 0 [some (.ref a0), some (.ref a1), some (.int a2), none] [] h).bind fun o => aft 61 13 16 L [] o := Rcv (c := 60) (As := [.ref a1, .int a2]) (S' := []) (pc' := 16) 6 rfl hO
theorem e61_16 {L : Lo} {S : List Value} {h : Hp} {v : Nat} : Run 61 16 (some (.ref v) :: L) S h = Run 61 17 (some (.ref v) :: L) (.ref v :: S) h := Rg rfl
theorem e61_17 {L : Lo} {S : List Value} {h : Hp} {x0 : Option Value} {v : Nat} : Run 61 17 (x0 :: some (.ref v) :: L) S h = Run 61 18 (x0 :: some (.ref v) :: L) (.ref v :: S) h := Rg rfl
theorem e61_18 {L : Lo} {S : List Value} {h : Hp} {x0 x1 : Option Value} {v : Int32} : Run 61 18 (x0 :: x1 :: some (.int v) :: L) S h = Run 61 19 (x0 :: x1 :: some (.int v) :: L) (.int v :: S) h := Rg rfl
set_option maxRecDepth 100000 in
theorem e61_19 {L : Lo} {h : Hp} {a3 : Int32} {a2 : Nat} {a1 : Nat} {a0 : Int32} (hO : isO h a1 6 = true) : Run 61 19 L [.int a3, .ref a2, .ref a1, .int a0] h = (Run 60 0 [some (.ref a1), some (.ref a2), some (.int a3), none] [] h).bind fun o => aft 61 19 22 L [.int a0] o := Rcv (c := 60) (As := [.ref a2, .int a3]) (S' := [.int a0]) (pc' := 22) 6 rfl hO
theorem e61_22 {L : Lo} {S : List Value} {h : Hp} {x z : Int32} : Run 61 22 L (.int z :: .int x :: S) h = if x ≤ z then Run 61 27 L S h else Run 61 25 L S h := Rbr (c := cnd .le x z = true) (off := 5) rfl rfl cnd_le
theorem e61_25 {L : Lo} {S : List Value} {h : Hp} {x0 x1 x2 : Option Value} {v : Int32} : Run 61 25 (x0 :: x1 :: x2 :: some (.int v) :: L) S h = Run 61 26 (x0 :: x1 :: x2 :: some (.int v) :: L) (.int v :: S) h := Rg rfl
theorem e61_26 {L : Lo} {S : List Value} {h : Hp} {x0 x1 : Option Value} {y : Option Value} {v : Int32} : Run 61 26 (x0 :: x1 :: y :: L) (.int v :: S) h = Run 61 27 (x0 :: ck x1 :: some (.int v) :: L) S h := Rg rfl
theorem e61_27 {L : Lo} {S : List Value} {h : Hp} {x0 x1 x2 : Option Value} {v : Int32} : Run 61 27 (x0 :: x1 :: x2 :: some (.int v) :: L) S h = Run 61 30 (x0 :: x1 :: x2 :: some (.int (v + 1)) :: L) S h := Rg rfl
theorem e61_30 {L : Lo} {S : List Value} {h : Hp} : Run 61 30 L S h = Run 61 4 L S h := Rg rfl
theorem e61_33 {L : Lo} {S : List Value} {h : Hp} {x0 x1 : Option Value} {v : Int32} : Run 61 33 (x0 :: x1 :: some (.int v) :: L) S h = Run 61 34 (x0 :: x1 :: some (.int v) :: L) (.int v :: S) h := Rg rfl
theorem e61_34 {L : Lo} {h : Hp} {x : Int32} : Run 61 34 L [.int x] h = some (.inl (some (.int x)), h) := Rd (if_pos (c := narrow .int (.int x) = .int x) rfl)
theorem e62_0 {L : Lo} {S : List Value} {h : Hp} {v : Nat} : Run 62 0 (some (.ref v) :: L) S h = Run 62 1 (some (.ref v) :: L) (.ref v :: S) h := Rg rfl
theorem e62_1 {L : Lo} {S : List Value} {h : Hp} {x0 : Option Value} {v : Nat} : Run 62 1 (x0 :: some (.ref v) :: L) S h = Run 62 2 (x0 :: some (.ref v) :: L) (.ref v :: S) h := Rg rfl
theorem e62_2 {L : Lo} {S : List Value} {h : Hp} {b : Nat} : Run 62 2 L (.ref b :: S) h = (gf h 7 12 b).bind fun v => Run 62 5 L (v :: S) h := Rb rfl fun _ => rfl
set_option maxRecDepth 100000 in
theorem e62_5 {L : Lo} {h : Hp} {a1 : Int32} {a0 : Nat} (hO : isO h a0 6 = true) : Run 62 5 L [.int a1, .ref a0] h = (Run 45 0 [some (.ref a0), some (.int a1)] [] h).bind fun o => aft 62 5 8 L [] o := Rcv (c := 45) (As := [.int a1]) (S' := []) (pc' := 8) 6 rfl hO
theorem e62_8 {L : Lo} {S : List Value} {h : Hp} {x : Int32} : Run 62 8 L (.int x :: S) h = if x = 0 then Run 62 24 L S h else Run 62 11 L S h := Rbr (c := cnd .eq x 0 = true) (off := 16) rfl rfl cnd_eq
theorem e62_11 {L : Lo} {S : List Value} {h : Hp} {v : Nat} : Run 62 11 (some (.ref v) :: L) S h = Run 62 12 (some (.ref v) :: L) (.ref v :: S) h := Rg rfl
theorem e62_12 {L : Lo} {S : List Value} {h : Hp} {b : Nat} : Run 62 12 L (.ref b :: S) h = (gf h 6 7 b).bind fun v => Run 62 15 L (v :: S) h := Rb rfl fun _ => rfl
theorem e62_15 {L : Lo} {S : List Value} {h : Hp} {x0 : Option Value} {v : Nat} : Run 62 15 (x0 :: some (.ref v) :: L) S h = Run 62 16 (x0 :: some (.ref v) :: L) (.ref v :: S) h := Rg rfl
theorem e62_16 {L : Lo} {S : List Value} {h : Hp} {b : Nat} : Run 62 16 L (.ref b :: S) h = (gf h 7 12 b).bind fun v => Run 62 19 L (v :: S) h := Rb rfl fun _ => rfl
theorem e62_19 {L : Lo} {S : List Value} {h : Hp} {i : Int32} {b : Nat} : Run 62 19 L (.int i :: .ref b :: S) h = (gaR h b i).bind fun v => Run 62 20 L (va_rf v :: S) h := Rb rfl fun _ => rfl
theorem e62_20 {L : Lo} {S : List Value} {h : Hp} : Run 62 20 L S h = Run 62 21 L (.int (-1) :: S) h := Rg rfl
theorem e62_21 {L : Lo} {S : List Value} {h : Hp} {b : Nat} {v : Value} : Run 62 21 L (v :: .ref b :: S) h = (pf h 7 12 b v).bind fun h1 => Run 62 24 L S h1 := Rb rfl fun _ => rfl
theorem e62_24 {L : Lo} {S : List Value} {h : Hp} {x0 : Option Value} {v : Nat} : Run 62 24 (x0 :: some (.ref v) :: L) S h = Run 62 25 (x0 :: some (.ref v) :: L) (.ref v :: S) h := Rg rfl
theorem e62_25 {L : Lo} {S : List Value} {h : Hp} : Run 62 25 L S h = Run 62 26 L (.int (-1) :: S) h := Rg rfl
theorem e62_26 {L : Lo} {S : List Value} {h : Hp} {b : Nat} {v : Value} : Run 62 26 L (v :: .ref b :: S) h = (pf h 7 12 b v).bind fun h1 => Run 62 29 L S h1 := Rb rfl fun _ => rfl
theorem e62_29 {L : Lo} {h : Hp} : Run 62 29 L [] h = some (.inl none, h) := Rd rfl
theorem e63_0 {L : Lo} {S : List Value} {h : Hp} : Run 63 0 L S h = Run 63 1 L (.int 0 :: S) h := Rg rfl
theorem e63_1 {L : Lo} {S : List Value} {h : Hp} {x0 : Option Value} {y : Option Value} {v : Int32} : Run 63 1 (x0 :: y :: L) (.int v :: S) h = Run 63 2 (ck x0 :: some (.int v) :: L) S h := Rg rfl
theorem e63_2 {L : Lo} {S : List Value} {h : Hp} : Run 63 2 L S h = Run 63 3 L (.int 0 :: S) h := Rg rfl
theorem e63_3 {L : Lo} {S : List Value} {h : Hp} {x0 x1 : Option Value} {y : Option Value} {v : Int32} : Run 63 3 (x0 :: x1 :: y :: L) (.int v :: S) h = Run 63 4 (x0 :: ck x1 :: some (.int v) :: L) S h := Rg rfl
theorem e63_4 {L : Lo} {S : List Value} {h : Hp} {x0 x1 : Option Value} {v : Int32} : Run 63 4 (x0 :: x1 :: some (.int v) :: L) S h = Run 63 5 (x0 :: x1 :: some (.int v) :: L) (.int v :: S) h := Rg rfl
theorem e63_5 {L : Lo} {S : List Value} {h : Hp} {v : Nat} : Run 63 5 (some (.ref v) :: L) S h = Run 63 6 (some (.ref v) :: L) (.ref v :: S) h := Rg rfl
theorem e63_6 {L : Lo} {S : List Value} {h : Hp} {b : Nat} : Run 63 6 L (.ref b :: S) h = (gf h 6 5 b).bind fun v => Run 63 9 L (v :: S) h := Rb rfl fun _ => rfl
theorem e63_9 {L : Lo} {S : List Value} {h : Hp} {x z : Int32} : Run 63 9 L (.int z :: .int x :: S) h = if z ≤ x then Run 63 39 L S h else Run 63 12 L S h := Rbr (c := cnd .ge x z = true) (off := 30) rfl rfl cnd_ge
theorem e63_12 {L : Lo} {S : List Value} {h : Hp} {x0 x1 : Option Value} {v : Int32} : Run 63 12 (x0 :: x1 :: some (.int v) :: L) S h = Run 63 13 (x0 :: x1 :: some (.int v) :: L) (.int v :: S) h := Rg rfl
theorem e63_13 {L : Lo} {S : List Value} {h : Hp} : Run 63 13 L S h = Run 63 15 L (.int 8 :: S) h := Rg rfl
theorem e63_15 {L : Lo} {S : List Value} {h : Hp} {x z : Int32} : Run 63 15 L (.int z :: .int x :: S) h = if z ≤ x then Run 63 39 L S h else Run 63 18 L S h := Rbr (c := cnd .ge x z = true) (off := 24) rfl rfl cnd_ge
theorem e63_18 {L : Lo} {S : List Value} {h : Hp} {v : Nat} : Run 63 18 (some (.ref v) :: L) S h = Run 63 19 (some (.ref v) :: L) (.ref v :: S) h := Rg rfl
theorem e63_19 {L : Lo} {S : List Value} {h : Hp} {b : Nat} : Run 63 19 L (.ref b :: S) h = (gf h 6 7 b).bind fun v => Run 63 22 L (v :: S) h := Rb rfl fun _ => rfl
theorem e63_22 {L : Lo} {S : List Value} {h : Hp} {x0 x1 : Option Value} {v : Int32} : Run 63 22 (x0 :: x1 :: some (.int v) :: L) S h = Run 63 23 (x0 :: x1 :: some (.int v) :: L) (.int v :: S) h := Rg rfl
theorem e63_23 {L : Lo} {S : List Value} {h : Hp} {i : Int32} {b : Nat} : Run 63 23 L (.int i :: .ref b :: S) h = (gaR h b i).bind fun v => Run 63 24 L (va_rf v :: S) h := Rb rfl fun _ => rfl
set_option maxRecDepth 100000 in
theorem e63_24 {L : Lo} {h : Hp} {a0 : Nat} (hO : isO h a0 7 = true) : Run 63 24 L [.ref a0] h = (Run 74 0 [some (.ref a0)] [] h).bind fun o => aft 63 24 27 L [] o := Rcv (c := 74) (As := []) (S' := []) (pc' := 27) 7 rfl hO
theorem e63_27 {L : Lo} {S : List Value} {h : Hp} {x : Int32} : Run 63 27 L (.int x :: S) h = if x = 0 then Run 63 33 L S h else Run 63 30 L S h := Rbr (c := cnd .eq x 0 = true) (off := 6) rfl rfl cnd_eq
theorem e63_30 {L : Lo} {S : List Value} {h : Hp} {x0 : Option Value} {v : Int32} : Run 63 30 (x0 :: some (.int v) :: L) S h = Run 63 33 (x0 :: some (.int (v + 1)) :: L) S h := Rg rfl
theorem e63_33 {L : Lo} {S : List Value} {h : Hp} {x0 x1 : Option Value} {v : Int32} : Run 63 33 (x0 :: x1 :: some (.int v) :: L) S h = Run 63 36 (x0 :: x1 :: some (.int (v + 1)) :: L) S h := Rg rfl
theorem e63_36 {L : Lo} {S : List Value} {h : Hp} : Run 63 36 L S h = Run 63 4 L S h := Rg rfl
theorem e63_39 {L : Lo} {S : List Value} {h : Hp} {x0 : Option Value} {v : Int32} : Run 63 39 (x0 :: some (.int v) :: L) S h = Run 63 40 (x0 :: some (.int v) :: L) (.int v :: S) h := Rg rfl
theorem e63_40 {L : Lo} {h : Hp} {x : Int32} : Run 63 40 L [.int x] h = some (.inl (some (.int x)), h) := Rd (if_pos (c := narrow .int (.int x) = .int x) rfl)
theorem e64_0 {L : Lo} {S : List Value} {h : Hp} : Run 64 0 L S h = Run 64 1 L (.int 0 :: S) h := Rg rfl
theorem e64_1 {L : Lo} {S : List Value} {h : Hp} {x0 x1 : Option Value} {y : Option Value} {v : Int32} : Run 64 1 (x0 :: x1 :: y :: L) (.int v :: S) h = Run 64 2 (x0 :: ck x1 :: some (.int v) :: L) S h := Rg rfl
theorem e64_2 {L : Lo} {S : List Value} {h : Hp} : Run 64 2 L S h = Run 64 3 L (.int 0 :: S) h := Rg rfl
theorem e64_3 {L : Lo} {S : List Value} {h : Hp} {x0 x1 x2 : Option Value} {y : Option Value} {v : Int32} : Run 64 3 (x0 :: x1 :: x2 :: y :: L) (.int v :: S) h = Run 64 4 (x0 :: x1 :: ck x2 :: some (.int v) :: L) S h := Rg rfl
theorem e64_4 {L : Lo} {S : List Value} {h : Hp} {x0 x1 x2 : Option Value} {v : Int32} : Run 64 4 (x0 :: x1 :: x2 :: some (.int v) :: L) S h = Run 64 5 (x0 :: x1 :: x2 :: some (.int v) :: L) (.int v :: S) h := Rg rfl
theorem e64_5 {L : Lo} {S : List Value} {h : Hp} {v : Nat} : Run 64 5 (some (.ref v) :: L) S h = Run 64 6 (some (.ref v) :: L) (.ref v :: S) h := Rg rfl
theorem e64_6 {L : Lo} {S : List Value} {h : Hp} {b : Nat} : Run 64 6 L (.ref b :: S) h = (gf h 6 5 b).bind fun v => Run 64 9 L (v :: S) h := Rb rfl fun _ => rfl
theorem e64_9 {L : Lo} {S : List Value} {h : Hp} {x z : Int32} : Run 64 9 L (.int z :: .int x :: S) h = if z ≤ x then Run 64 52 L S h else Run 64 12 L S h := Rbr (c := cnd .ge x z = true) (off := 43) rfl rfl cnd_ge
theorem e64_12 {L : Lo} {S : List Value} {h : Hp} {x0 x1 x2 : Option Value} {v : Int32} : Run 64 12 (x0 :: x1 :: x2 :: some (.int v) :: L) S h = Run 64 13 (x0 :: x1 :: x2 :: some (.int v) :: L) (.int v :: S) h := Rg rfl
theorem e64_13 {L : Lo} {S : List Value} {h : Hp} : Run 64 13 L S h = Run 64 15 L (.int 8 :: S) h := Rg rfl
theorem e64_15 {L : Lo} {S : List Value} {h : Hp} {x z : Int32} : Run 64 15 L (.int z :: .int x :: S) h = if z ≤ x then Run 64 52 L S h else Run 64 18 L S h := Rbr (c := cnd .ge x z = true) (off := 37) rfl rfl cnd_ge
theorem e64_18 {L : Lo} {S : List Value} {h : Hp} {v : Nat} : Run 64 18 (some (.ref v) :: L) S h = Run 64 19 (some (.ref v) :: L) (.ref v :: S) h := Rg rfl
theorem e64_19 {L : Lo} {S : List Value} {h : Hp} {b : Nat} : Run 64 19 L (.ref b :: S) h = (gf h 6 7 b).bind fun v => Run 64 22 L (v :: S) h := Rb rfl fun _ => rfl
theorem e64_22 {L : Lo} {S : List Value} {h : Hp} {x0 x1 x2 : Option Value} {v : Int32} : Run 64 22 (x0 :: x1 :: x2 :: some (.int v) :: L) S h = Run 64 23 (x0 :: x1 :: x2 :: some (.int v) :: L) (.int v :: S) h := Rg rfl
theorem e64_23 {L : Lo} {S : List Value} {h : Hp} {i : Int32} {b : Nat} : Run 64 23 L (.int i :: .ref b :: S) h = (gaR h b i).bind fun v => Run 64 24 L (va_rf v :: S) h := Rb rfl fun _ => rfl
set_option maxRecDepth 100000 in
theorem e64_24 {L : Lo} {h : Hp} {a0 : Nat} (hO : isO h a0 7 = true) : Run 64 24 L [.ref a0] h = (Run 73 0 [some (.ref a0)] [] h).bind fun o => aft 64 24 27 L [] o := Rcv (c := 73) (As := []) (S' := []) (pc' := 27) 7 rfl hO
theorem e64_27 {L : Lo} {S : List Value} {h : Hp} {x : Int32} : Run 64 27 L (.int x :: S) h = if x = 0 then Run 64 46 L S h else Run 64 30 L S h := Rbr (c := cnd .eq x 0 = true) (off := 19) rfl rfl cnd_eq
theorem e64_30 {L : Lo} {S : List Value} {h : Hp} {v : Nat} : Run 64 30 (some (.ref v) :: L) S h = Run 64 31 (some (.ref v) :: L) (.ref v :: S) h := Rg rfl
theorem e64_31 {L : Lo} {S : List Value} {h : Hp} {b : Nat} : Run 64 31 L (.ref b :: S) h = (gf h 6 7 b).bind fun v => Run 64 34 L (v :: S) h := Rb rfl fun _ => rfl
theorem e64_34 {L : Lo} {S : List Value} {h : Hp} {x0 x1 x2 : Option Value} {v : Int32} : Run 64 34 (x0 :: x1 :: x2 :: some (.int v) :: L) S h = Run 64 35 (x0 :: x1 :: x2 :: some (.int v) :: L) (.int v :: S) h := Rg rfl
theorem e64_35 {L : Lo} {S : List Value} {h : Hp} {i : Int32} {b : Nat} : Run 64 35 L (.int i :: .ref b :: S) h = (gaR h b i).bind fun v => Run 64 36 L (va_rf v :: S) h := Rb rfl fun _ => rfl
theorem e64_36 {L : Lo} {S : List Value} {h : Hp} {b : Nat} : Run 64 36 L (.ref b :: S) h = (gf h 7 0 b).bind fun v => Run 64 39 L (v :: S) h := Rb rfl fun _ => rfl
theorem e64_39 {L : Lo} {S : List Value} {h : Hp} {x0 : Option Value} {v : Int32} : Run 64 39 (x0 :: some (.int v) :: L) S h = Run 64 40 (x0 :: some (.int v) :: L) (.int v :: S) h := Rg rfl
theorem e64_40 {L : Lo} {S : List Value} {h : Hp} {x z : Int32} : Run 64 40 L (.int z :: .int x :: S) h = if x = z then Run 64 43 L S h else Run 64 46 L S h := RbrN (c := cnd .ne x z = true) (off := 6) rfl rfl cnd_ne
theorem e64_43 {L : Lo} {S : List Value} {h : Hp} {x0 x1 : Option Value} {v : Int32} : Run 64 43 (x0 :: x1 :: some (.int v) :: L) S h = Run 64 46 (x0 :: x1 :: some (.int (v + 1)) :: L) S h := Rg rfl
theorem e64_46 {L : Lo} {S : List Value} {h : Hp} {x0 x1 x2 : Option Value} {v : Int32} : Run 64 46 (x0 :: x1 :: x2 :: some (.int v) :: L) S h = Run 64 49 (x0 :: x1 :: x2 :: some (.int (v + 1)) :: L) S h := Rg rfl
theorem e64_49 {L : Lo} {S : List Value} {h : Hp} : Run 64 49 L S h = Run 64 4 L S h := Rg rfl
theorem e64_52 {L : Lo} {S : List Value} {h : Hp} {x0 x1 : Option Value} {v : Int32} : Run 64 52 (x0 :: x1 :: some (.int v) :: L) S h = Run 64 53 (x0 :: x1 :: some (.int v) :: L) (.int v :: S) h := Rg rfl
theorem e64_53 {L : Lo} {h : Hp} {x : Int32} : Run 64 53 L [.int x] h = some (.inl (some (.int x)), h) := Rd (if_pos (c := narrow .int (.int x) = .int x) rfl)
theorem e65_0 {L : Lo} {S : List Value} {h : Hp} : Run 65 0 L S h = Run 65 1 L (.int 0 :: S) h := Rg rfl
theorem e65_1 {L : Lo} {S : List Value} {h : Hp} {x0 x1 : Option Value} {y : Option Value} {v : Int32} : Run 65 1 (x0 :: x1 :: y :: L) (.int v :: S) h = Run 65 2 (x0 :: ck x1 :: some (.int v) :: L) S h := Rg rfl
theorem e65_2 {L : Lo} {S : List Value} {h : Hp} : Run 65 2 L S h = Run 65 3 L (.int 0 :: S) h := Rg rfl
theorem e65_3 {L : Lo} {S : List Value} {h : Hp} {x0 x1 x2 : Option Value} {y : Option Value} {v : Int32} : Run 65 3 (x0 :: x1 :: x2 :: y :: L) (.int v :: S) h = Run 65 4 (x0 :: x1 :: ck x2 :: some (.int v) :: L) S h := Rg rfl
theorem e65_4 {L : Lo} {S : List Value} {h : Hp} {x0 x1 x2 : Option Value} {v : Int32} : Run 65 4 (x0 :: x1 :: x2 :: some (.int v) :: L) S h = Run 65 5 (x0 :: x1 :: x2 :: some (.int v) :: L) (.int v :: S) h := Rg rfl
theorem e65_5 {L : Lo} {S : List Value} {h : Hp} {v : Nat} : Run 65 5 (some (.ref v) :: L) S h = Run 65 6 (some (.ref v) :: L) (.ref v :: S) h := Rg rfl
theorem e65_6 {L : Lo} {S : List Value} {h : Hp} {b : Nat} : Run 65 6 L (.ref b :: S) h = (gf h 6 5 b).bind fun v => Run 65 9 L (v :: S) h := Rb rfl fun _ => rfl
theorem e65_9 {L : Lo} {S : List Value} {h : Hp} {x z : Int32} : Run 65 9 L (.int z :: .int x :: S) h = if z ≤ x then Run 65 71 L S h else Run 65 12 L S h := Rbr (c := cnd .ge x z = true) (off := 62) rfl rfl cnd_ge
theorem e65_12 {L : Lo} {S : List Value} {h : Hp} {x0 x1 x2 : Option Value} {v : Int32} : Run 65 12 (x0 :: x1 :: x2 :: some (.int v) :: L) S h = Run 65 13 (x0 :: x1 :: x2 :: some (.int v) :: L) (.int v :: S) h := Rg rfl
theorem e65_13 {L : Lo} {S : List Value} {h : Hp} : Run 65 13 L S h = Run 65 15 L (.int 8 :: S) h := Rg rfl
theorem e65_15 {L : Lo} {S : List Value} {h : Hp} {x z : Int32} : Run 65 15 L (.int z :: .int x :: S) h = if z ≤ x then Run 65 71 L S h else Run 65 18 L S h := Rbr (c := cnd .ge x z = true) (off := 56) rfl rfl cnd_ge
theorem e65_18 {L : Lo} {S : List Value} {h : Hp} {v : Nat} : Run 65 18 (some (.ref v) :: L) S h = Run 65 19 (some (.ref v) :: L) (.ref v :: S) h := Rg rfl
theorem e65_19 {L : Lo} {S : List Value} {h : Hp} {b : Nat} : Run 65 19 L (.ref b :: S) h = (gf h 6 7 b).bind fun v => Run 65 22 L (v :: S) h := Rb rfl fun _ => rfl
theorem e65_22 {L : Lo} {S : List Value} {h : Hp} {x0 x1 x2 : Option Value} {v : Int32} : Run 65 22 (x0 :: x1 :: x2 :: some (.int v) :: L) S h = Run 65 23 (x0 :: x1 :: x2 :: some (.int v) :: L) (.int v :: S) h := Rg rfl
theorem e65_23 {L : Lo} {S : List Value} {h : Hp} {i : Int32} {b : Nat} : Run 65 23 L (.int i :: .ref b :: S) h = (gaR h b i).bind fun v => Run 65 24 L (va_rf v :: S) h := Rb rfl fun _ => rfl
set_option maxRecDepth 100000 in
theorem e65_24 {L : Lo} {h : Hp} {a0 : Nat} (hO : isO h a0 7 = true) : Run 65 24 L [.ref a0] h = (Run 73 0 [some (.ref a0)] [] h).bind fun o => aft 65 24 27 L [] o := Rcv (c := 73) (As := []) (S' := []) (pc' := 27) 7 rfl hO
theorem e65_27 {L : Lo} {S : List Value} {h : Hp} {x : Int32} : Run 65 27 L (.int x :: S) h = if x = 0 then Run 65 65 L S h else Run 65 30 L S h := Rbr (c := cnd .eq x 0 = true) (off := 38) rfl rfl cnd_eq
theorem e65_30 {L : Lo} {S : List Value} {h : Hp} {v : Nat} : Run 65 30 (some (.ref v) :: L) S h = Run 65 31 (some (.ref v) :: L) (.ref v :: S) h := Rg rfl
theorem e65_31 {L : Lo} {S : List Value} {h : Hp} {b : Nat} : Run 65 31 L (.ref b :: S) h = (gf h 6 7 b).bind fun v => Run 65 34 L (v :: S) h := Rb rfl fun _ => rfl
theorem e65_34 {L : Lo} {S : List Value} {h : Hp} {x0 x1 x2 : Option Value} {v : Int32} : Run 65 34 (x0 :: x1 :: x2 :: some (.int v) :: L) S h = Run 65 35 (x0 :: x1 :: x2 :: some (.int v) :: L) (.int v :: S) h := Rg rfl
theorem e65_35 {L : Lo} {S : List Value} {h : Hp} {i : Int32} {b : Nat} : Run 65 35 L (.int i :: .ref b :: S) h = (gaR h b i).bind fun v => Run 65 36 L (va_rf v :: S) h := Rb rfl fun _ => rfl
theorem e65_36 {L : Lo} {S : List Value} {h : Hp} {b : Nat} : Run 65 36 L (.ref b :: S) h = (gf h 7 0 b).bind fun v => Run 65 39 L (v :: S) h := Rb rfl fun _ => rfl
theorem e65_39 {L : Lo} {S : List Value} {h : Hp} {x0 : Option Value} {v : Int32} : Run 65 39 (x0 :: some (.int v) :: L) S h = Run 65 40 (x0 :: some (.int v) :: L) (.int v :: S) h := Rg rfl
theorem e65_40 {L : Lo} {S : List Value} {h : Hp} {x z : Int32} : Run 65 40 L (.int z :: .int x :: S) h = if x = z then Run 65 43 L S h else Run 65 65 L S h := RbrN (c := cnd .ne x z = true) (off := 25) rfl rfl cnd_ne
theorem e65_43 {L : Lo} {S : List Value} {h : Hp} {x0 x1 : Option Value} {v : Int32} : Run 65 43 (x0 :: x1 :: some (.int v) :: L) S h = Run 65 44 (x0 :: x1 :: some (.int v) :: L) (.int v :: S) h := Rg rfl
theorem e65_44 {L : Lo} {S : List Value} {h : Hp} {v : Nat} : Run 65 44 (some (.ref v) :: L) S h = Run 65 45 (some (.ref v) :: L) (.ref v :: S) h := Rg rfl
theorem e65_45 {L : Lo} {S : List Value} {h : Hp} {b : Nat} : Run 65 45 L (.ref b :: S) h = (gf h 6 7 b).bind fun v => Run 65 48 L (v :: S) h := Rb rfl fun _ => rfl
theorem e65_48 {L : Lo} {S : List Value} {h : Hp} {x0 x1 x2 : Option Value} {v : Int32} : Run 65 48 (x0 :: x1 :: x2 :: some (.int v) :: L) S h = Run 65 49 (x0 :: x1 :: x2 :: some (.int v) :: L) (.int v :: S) h := Rg rfl
theorem e65_49 {L : Lo} {S : List Value} {h : Hp} {i : Int32} {b : Nat} : Run 65 49 L (.int i :: .ref b :: S) h = (gaR h b i).bind fun v => Run 65 50 L (va_rf v :: S) h := Rb rfl fun _ => rfl
theorem e65_50 {L : Lo} {S : List Value} {h : Hp} {b : Nat} : Run 65 50 L (.ref b :: S) h = (gf h 7 3 b).bind fun v => Run 65 53 L (v :: S) h := Rb rfl fun _ => rfl
theorem e65_53 {L : Lo} {S : List Value} {h : Hp} {v : Nat} : Run 65 53 (some (.ref v) :: L) S h = Run 65 54 (some (.ref v) :: L) (.ref v :: S) h := Rg rfl
theorem e65_54 {L : Lo} {S : List Value} {h : Hp} {b : Nat} : Run 65 54 L (.ref b :: S) h = (gf h 6 7 b).bind fun v => Run 65 57 L (v :: S) h := Rb rfl fun _ => rfl
theorem e65_57 {L : Lo} {S : List Value} {h : Hp} {x0 x1 x2 : Option Value} {v : Int32} : Run 65 57 (x0 :: x1 :: x2 :: some (.int v) :: L) S h = Run 65 58 (x0 :: x1 :: x2 :: some (.int v) :: L) (.int v :: S) h := Rg rfl
theorem e65_58 {L : Lo} {S : List Value} {h : Hp} {i : Int32} {b : Nat} : Run 65 58 L (.int i :: .ref b :: S) h = (gaR h b i).bind fun v => Run 65 59 L (va_rf v :: S) h := Rb rfl fun _ => rfl
theorem e65_59 {L : Lo} {S : List Value} {h : Hp} {b : Nat} : Run 65 59 L (.ref b :: S) h = (gf h 7 7 b).bind fun v => Run 65 62 L (v :: S) h := Rb rfl fun _ => rfl
theorem e65_62 {L : Lo} {S : List Value} {h : Hp} {x z : Int32} : Run 65 62 L (.int z :: .int x :: S) h = Run 65 63 L (.int (x + z) :: S) h := Rg rfl
theorem e65_63 {L : Lo} {S : List Value} {h : Hp} {x z : Int32} : Run 65 63 L (.int z :: .int x :: S) h = Run 65 64 L (.int (x + z) :: S) h := Rg rfl
theorem e65_64 {L : Lo} {S : List Value} {h : Hp} {x0 x1 : Option Value} {y : Option Value} {v : Int32} : Run 65 64 (x0 :: x1 :: y :: L) (.int v :: S) h = Run 65 65 (x0 :: ck x1 :: some (.int v) :: L) S h := Rg rfl
theorem e65_65 {L : Lo} {S : List Value} {h : Hp} {x0 x1 x2 : Option Value} {v : Int32} : Run 65 65 (x0 :: x1 :: x2 :: some (.int v) :: L) S h = Run 65 68 (x0 :: x1 :: x2 :: some (.int (v + 1)) :: L) S h := Rg rfl
theorem e65_68 {L : Lo} {S : List Value} {h : Hp} : Run 65 68 L S h = Run 65 4 L S h := Rg rfl
theorem e65_71 {L : Lo} {S : List Value} {h : Hp} {x0 x1 : Option Value} {v : Int32} : Run 65 71 (x0 :: x1 :: some (.int v) :: L) S h = Run 65 72 (x0 :: x1 :: some (.int v) :: L) (.int v :: S) h := Rg rfl
theorem e65_72 {L : Lo} {h : Hp} {x : Int32} : Run 65 72 L [.int x] h = some (.inl (some (.int x)), h) := Rd (if_pos (c := narrow .int (.int x) = .int x) rfl)
theorem e66_0 {L : Lo} {S : List Value} {h : Hp} : Run 66 0 L S h = Run 66 1 L (.int 0 :: S) h := Rg rfl
theorem e66_1 {L : Lo} {S : List Value} {h : Hp} {x0 : Option Value} {y : Option Value} {v : Int32} : Run 66 1 (x0 :: y :: L) (.int v :: S) h = Run 66 2 (ck x0 :: some (.int v) :: L) S h := Rg rfl
theorem e66_2 {L : Lo} {S : List Value} {h : Hp} : Run 66 2 L S h = Run 66 3 L (.int 0 :: S) h := Rg rfl
theorem e66_3 {L : Lo} {S : List Value} {h : Hp} {x0 x1 : Option Value} {y : Option Value} {v : Int32} : Run 66 3 (x0 :: x1 :: y :: L) (.int v :: S) h = Run 66 4 (x0 :: ck x1 :: some (.int v) :: L) S h := Rg rfl
theorem e66_4 {L : Lo} {S : List Value} {h : Hp} {x0 x1 : Option Value} {v : Int32} : Run 66 4 (x0 :: x1 :: some (.int v) :: L) S h = Run 66 5 (x0 :: x1 :: some (.int v) :: L) (.int v :: S) h := Rg rfl
theorem e66_5 {L : Lo} {S : List Value} {h : Hp} : Run 66 5 L S h = Run 66 8 L (.int 144 :: S) h := Rg rfl
theorem e66_8 {L : Lo} {S : List Value} {h : Hp} {x z : Int32} : Run 66 8 L (.int z :: .int x :: S) h = if z ≤ x then Run 66 28 L S h else Run 66 11 L S h := Rbr (c := cnd .ge x z = true) (off := 20) rfl rfl cnd_ge
theorem e66_11 {L : Lo} {S : List Value} {h : Hp} {v : Nat} : Run 66 11 (some (.ref v) :: L) S h = Run 66 12 (some (.ref v) :: L) (.ref v :: S) h := Rg rfl
theorem e66_12 {L : Lo} {S : List Value} {h : Hp} {x0 x1 : Option Value} {v : Int32} : Run 66 12 (x0 :: x1 :: some (.int v) :: L) S h = Run 66 13 (x0 :: x1 :: some (.int v) :: L) (.int v :: S) h := Rg rfl
set_option maxRecDepth 100000 in
theorem e66_13 {L : Lo} {h : Hp} {a1 : Int32} {a0 : Nat} (hO : isO h a0 6 = true) : Run 66 13 L [.int a1, .ref a0] h = (Run 48 0 [some (.ref a0), some (.int a1)] [] h).bind fun o => aft 66 13 16 L [] o := Rcv (c := 48) (As := [.int a1]) (S' := []) (pc' := 16) 6 rfl hO
theorem e66_16 {L : Lo} {S : List Value} {h : Hp} {x : Int32} : Run 66 16 L (.int x :: S) h = if x = 0 then Run 66 22 L S h else Run 66 19 L S h := Rbr (c := cnd .eq x 0 = true) (off := 6) rfl rfl cnd_eq
theorem e66_19 {L : Lo} {S : List Value} {h : Hp} {x0 : Option Value} {v : Int32} : Run 66 19 (x0 :: some (.int v) :: L) S h = Run 66 22 (x0 :: some (.int (v + 1)) :: L) S h := Rg rfl
theorem e66_22 {L : Lo} {S : List Value} {h : Hp} {x0 x1 : Option Value} {v : Int32} : Run 66 22 (x0 :: x1 :: some (.int v) :: L) S h = Run 66 25 (x0 :: x1 :: some (.int (v + 1)) :: L) S h := Rg rfl
theorem e66_25 {L : Lo} {S : List Value} {h : Hp} : Run 66 25 L S h = Run 66 4 L S h := Rg rfl
theorem e66_28 {L : Lo} {S : List Value} {h : Hp} {x0 : Option Value} {v : Int32} : Run 66 28 (x0 :: some (.int v) :: L) S h = Run 66 29 (x0 :: some (.int v) :: L) (.int v :: S) h := Rg rfl
theorem e66_29 {L : Lo} {h : Hp} {x : Int32} : Run 66 29 L [.int x] h = some (.inl (some (.int x)), h) := Rd (if_pos (c := narrow .int (.int x) = .int x) rfl)
theorem e67_0 {L : Lo} {S : List Value} {h : Hp} : Run 67 0 L S h = Run 67 3 L (.int 143 :: S) h := Rg rfl
theorem e67_3 {L : Lo} {S : List Value} {h : Hp} {x0 : Option Value} {y : Option Value} {v : Int32} : Run 67 3 (x0 :: y :: L) (.int v :: S) h = Run 67 4 (ck x0 :: some (.int v) :: L) S h := Rg rfl
theorem e67_4 {L : Lo} {S : List Value} {h : Hp} {x0 : Option Value} {v : Int32} : Run 67 4 (x0 :: some (.int v) :: L) S h = Run 67 5 (x0 :: some (.int v) :: L) (.int v :: S) h := Rg rfl
theorem e67_5 {L : Lo} {S : List Value} {h : Hp} {x : Int32} : Run 67 5 L (.int x :: S) h = if x < 0 then Run 67 24 L S h else Run 67 8 L S h := Rbr (c := cnd .lt x 0 = true) (off := 19) rfl rfl cnd_lt
theorem e67_8 {L : Lo} {S : List Value} {h : Hp} {v : Nat} : Run 67 8 (some (.ref v) :: L) S h = Run 67 9 (some (.ref v) :: L) (.ref v :: S) h := Rg rfl
theorem e67_9 {L : Lo} {S : List Value} {h : Hp} {x0 : Option Value} {v : Int32} : Run 67 9 (x0 :: some (.int v) :: L) S h = Run 67 10 (x0 :: some (.int v) :: L) (.int v :: S) h := Rg rfl
set_option maxRecDepth 100000 in
theorem e67_10 {L : Lo} {h : Hp} {a1 : Int32} {a0 : Nat} (hO : isO h a0 6 = true) : Run 67 10 L [.int a1, .ref a0] h = (Run 48 0 [some (.ref a0), some (.int a1)] [] h).bind fun o => aft 67 10 13 L [] o := Rcv (c := 48) (As := [.int a1]) (S' := []) (pc' := 13) 6 rfl hO
theorem e67_13 {L : Lo} {S : List Value} {h : Hp} {x : Int32} : Run 67 13 L (.int x :: S) h = if x = 0 then Run 67 18 L S h else Run 67 16 L S h := Rbr (c := cnd .eq x 0 = true) (off := 5) rfl rfl cnd_eq
theorem e67_16 {L : Lo} {S : List Value} {h : Hp} {x0 : Option Value} {v : Int32} : Run 67 16 (x0 :: some (.int v) :: L) S h = Run 67 17 (x0 :: some (.int v) :: L) (.int v :: S) h := Rg rfl
theorem e67_17 {L : Lo} {h : Hp} {x : Int32} : Run 67 17 L [.int x] h = some (.inl (some (.int x)), h) := Rd (if_pos (c := narrow .int (.int x) = .int x) rfl)
theorem e67_18 {L : Lo} {S : List Value} {h : Hp} {x0 : Option Value} {v : Int32} : Run 67 18 (x0 :: some (.int v) :: L) S h = Run 67 21 (x0 :: some (.int (v + (-1))) :: L) S h := Rg rfl
theorem e67_21 {L : Lo} {S : List Value} {h : Hp} : Run 67 21 L S h = Run 67 4 L S h := Rg rfl
theorem e67_24 {L : Lo} {S : List Value} {h : Hp} : Run 67 24 L S h = Run 67 25 L (.int (-1) :: S) h := Rg rfl
theorem e67_25 {L : Lo} {h : Hp} {x : Int32} : Run 67 25 L [.int x] h = some (.inl (some (.int x)), h) := Rd (if_pos (c := narrow .int (.int x) = .int x) rfl)
theorem e68_0 {L : Lo} {S : List Value} {h : Hp} {x0 : Option Value} {v : Int32} : Run 68 0 (x0 :: some (.int v) :: L) S h = Run 68 1 (x0 :: some (.int v) :: L) (.int v :: S) h := Rg rfl
theorem e68_1_0 {L : Lo} {S : List Value} {h : Hp} : Run 68 1 L (.int 0 :: S) h = Run 68 52 L S h := Rg rfl
theorem e68_1_1 {L : Lo} {S : List Value} {h : Hp} : Run 68 1 L (.int 1 :: S) h = Run 68 57 L S h := Rg rfl
theorem e68_1_2 {L : Lo} {S : List Value} {h : Hp} : Run 68 1 L (.int 2 :: S) h = Run 68 62 L S h := Rg rfl
theorem e68_1_3 {L : Lo} {S : List Value} {h : Hp} : Run 68 1 L (.int 3 :: S) h = Run 68 67 L S h := Rg rfl
theorem e68_1_4 {L : Lo} {S : List Value} {h : Hp} : Run 68 1 L (.int 4 :: S) h = Run 68 72 L S h := Rg rfl
theorem e68_1_5 {L : Lo} {S : List Value} {h : Hp} : Run 68 1 L (.int 5 :: S) h = Run 68 77 L S h := Rg rfl
theorem e68_1_6 {L : Lo} {S : List Value} {h : Hp} : Run 68 1 L (.int 6 :: S) h = Run 68 82 L S h := Rg rfl
theorem e68_1_7 {L : Lo} {S : List Value} {h : Hp} : Run 68 1 L (.int 7 :: S) h = Run 68 88 L S h := Rg rfl
theorem e68_1_8 {L : Lo} {S : List Value} {h : Hp} : Run 68 1 L (.int 8 :: S) h = Run 68 94 L S h := Rg rfl
theorem e68_1_d {L : Lo} {S : List Value} {h : Hp} {x : Int32} (hx : x.toInt < 0 ∨ 8 < x.toInt) : Run 68 1 L (.int x :: S) h = Run 68 99 L S h := Rg (if_pos hx)
theorem e68_52 {L : Lo} {S : List Value} {h : Hp} {v : Nat} : Run 68 52 (some (.ref v) :: L) S h = Run 68 53 (some (.ref v) :: L) (.ref v :: S) h := Rg rfl
theorem e68_53 {L : Lo} {S : List Value} {h : Hp} {b : Nat} : Run 68 53 L (.ref b :: S) h = (gf h 6 0 b).bind fun v => Run 68 56 L (v :: S) h := Rb rfl fun _ => rfl
theorem e68_56 {L : Lo} {h : Hp} {x : Int32} : Run 68 56 L [.int x] h = some (.inl (some (.int x)), h) := Rd (if_pos (c := narrow .int (.int x) = .int x) rfl)
theorem e68_57 {L : Lo} {S : List Value} {h : Hp} {v : Nat} : Run 68 57 (some (.ref v) :: L) S h = Run 68 58 (some (.ref v) :: L) (.ref v :: S) h := Rg rfl
theorem e68_58 {L : Lo} {S : List Value} {h : Hp} {b : Nat} : Run 68 58 L (.ref b :: S) h = (gf h 6 1 b).bind fun v => Run 68 61 L (v :: S) h := Rb rfl fun _ => rfl
theorem e68_61 {L : Lo} {h : Hp} {x : Int32} : Run 68 61 L [.int x] h = some (.inl (some (.int x)), h) := Rd (if_pos (c := narrow .int (.int x) = .int x) rfl)
theorem e68_62 {L : Lo} {S : List Value} {h : Hp} {v : Nat} : Run 68 62 (some (.ref v) :: L) S h = Run 68 63 (some (.ref v) :: L) (.ref v :: S) h := Rg rfl
theorem e68_63 {L : Lo} {S : List Value} {h : Hp} {b : Nat} : Run 68 63 L (.ref b :: S) h = (gf h 6 2 b).bind fun v => Run 68 66 L (v :: S) h := Rb rfl fun _ => rfl
theorem e68_66 {L : Lo} {h : Hp} {x : Int32} : Run 68 66 L [.int x] h = some (.inl (some (.int x)), h) := Rd (if_pos (c := narrow .int (.int x) = .int x) rfl)
theorem e68_67 {L : Lo} {S : List Value} {h : Hp} {v : Nat} : Run 68 67 (some (.ref v) :: L) S h = Run 68 68 (some (.ref v) :: L) (.ref v :: S) h := Rg rfl
theorem e68_68 {L : Lo} {S : List Value} {h : Hp} {b : Nat} : Run 68 68 L (.ref b :: S) h = (gf h 6 3 b).bind fun v => Run 68 71 L (v :: S) h := Rb rfl fun _ => rfl
theorem e68_71 {L : Lo} {h : Hp} {x : Int32} : Run 68 71 L [.int x] h = some (.inl (some (.int x)), h) := Rd (if_pos (c := narrow .int (.int x) = .int x) rfl)
theorem e68_72 {L : Lo} {S : List Value} {h : Hp} {v : Nat} : Run 68 72 (some (.ref v) :: L) S h = Run 68 73 (some (.ref v) :: L) (.ref v :: S) h := Rg rfl
theorem e68_73 {L : Lo} {S : List Value} {h : Hp} {b : Nat} : Run 68 73 L (.ref b :: S) h = (gf h 6 4 b).bind fun v => Run 68 76 L (v :: S) h := Rb rfl fun _ => rfl
theorem e68_76 {L : Lo} {h : Hp} {x : Int32} : Run 68 76 L [.int x] h = some (.inl (some (.int x)), h) := Rd (if_pos (c := narrow .int (.int x) = .int x) rfl)
theorem e68_77 {L : Lo} {S : List Value} {h : Hp} {v : Nat} : Run 68 77 (some (.ref v) :: L) S h = Run 68 78 (some (.ref v) :: L) (.ref v :: S) h := Rg rfl
theorem e68_78 {L : Lo} {S : List Value} {h : Hp} {b : Nat} : Run 68 78 L (.ref b :: S) h = (gf h 6 5 b).bind fun v => Run 68 81 L (v :: S) h := Rb rfl fun _ => rfl
theorem e68_81 {L : Lo} {h : Hp} {x : Int32} : Run 68 81 L [.int x] h = some (.inl (some (.int x)), h) := Rd (if_pos (c := narrow .int (.int x) = .int x) rfl)
theorem e68_82 {L : Lo} {S : List Value} {h : Hp} {v : Nat} : Run 68 82 (some (.ref v) :: L) S h = Run 68 83 (some (.ref v) :: L) (.ref v :: S) h := Rg rfl
theorem e68_83 {L : Lo} {S : List Value} {h : Hp} : Run 68 83 L S h = Run 68 84 L (.int 0 :: S) h := Rg rfl
set_option maxRecDepth 100000 in
theorem e68_84 {L : Lo} {h : Hp} {a1 : Int32} {a0 : Nat} (hO : isO h a0 6 = true) : Run 68 84 L [.int a1, .ref a0] h = (Run 64 0 [some (.ref a0), some (.int a1), none, none] [] h).bind fun o => aft 68 84 87 L [] o := Rcv (c := 64) (As := [.int a1]) (S' := []) (pc' := 87) 6 rfl hO
theorem e68_87 {L : Lo} {h : Hp} {x : Int32} : Run 68 87 L [.int x] h = some (.inl (some (.int x)), h) := Rd (if_pos (c := narrow .int (.int x) = .int x) rfl)
theorem e68_88 {L : Lo} {S : List Value} {h : Hp} {v : Nat} : Run 68 88 (some (.ref v) :: L) S h = Run 68 89 (some (.ref v) :: L) (.ref v :: S) h := Rg rfl
theorem e68_89 {L : Lo} {S : List Value} {h : Hp} : Run 68 89 L S h = Run 68 90 L (.int 1 :: S) h := Rg rfl
set_option maxRecDepth 100000 in
theorem e68_90 {L : Lo} {h : Hp} {a1 : Int32} {a0 : Nat} (hO : isO h a0 6 = true) : Run 68 90 L [.int a1, .ref a0] h = (Run 64 0 [some (.ref a0), some (.int a1), none, none] [] h).bind fun o => aft 68 90 93 L [] o := Rcv (c := 64) (As := [.int a1]) (S' := []) (pc' := 93) 6 rfl hO
theorem e68_93 {L : Lo} {h : Hp} {x : Int32} : Run 68 93 L [.int x] h = some (.inl (some (.int x)), h) := Rd (if_pos (c := narrow .int (.int x) = .int x) rfl)
theorem e68_94 {L : Lo} {S : List Value} {h : Hp} {v : Nat} : Run 68 94 (some (.ref v) :: L) S h = Run 68 95 (some (.ref v) :: L) (.ref v :: S) h := Rg rfl
set_option maxRecDepth 100000 in
theorem e68_95 {L : Lo} {h : Hp} {a0 : Nat} (hO : isO h a0 6 = true) : Run 68 95 L [.ref a0] h = (Run 66 0 [some (.ref a0), none, none] [] h).bind fun o => aft 68 95 98 L [] o := Rcv (c := 66) (As := []) (S' := []) (pc' := 98) 6 rfl hO
theorem e68_98 {L : Lo} {h : Hp} {x : Int32} : Run 68 98 L [.int x] h = some (.inl (some (.int x)), h) := Rd (if_pos (c := narrow .int (.int x) = .int x) rfl)
theorem e68_99 {L : Lo} {S : List Value} {h : Hp} {v : Nat} : Run 68 99 (some (.ref v) :: L) S h = Run 68 100 (some (.ref v) :: L) (.ref v :: S) h := Rg rfl
set_option maxRecDepth 100000 in
theorem e68_100 {L : Lo} {h : Hp} {a0 : Nat} (hO : isO h a0 6 = true) : Run 68 100 L [.ref a0] h = (Run 67 0 [some (.ref a0), none] [] h).bind fun o => aft 68 100 103 L [] o := Rcv (c := 67) (As := []) (S' := []) (pc' := 103) 6 rfl hO
theorem e68_103 {L : Lo} {h : Hp} {x : Int32} : Run 68 103 L [.int x] h = some (.inl (some (.int x)), h) := Rd (if_pos (c := narrow .int (.int x) = .int x) rfl)
theorem e69_0 {L : Lo} {S : List Value} {h : Hp} {x0 x1 : Option Value} {v : Int32} : Run 69 0 (x0 :: x1 :: some (.int v) :: L) S h = Run 69 1 (x0 :: x1 :: some (.int v) :: L) (.int v :: S) h := Rg rfl
theorem e69_1_0 {L : Lo} {S : List Value} {h : Hp} : Run 69 1 L (.int 0 :: S) h = Run 69 72 L S h := Rg rfl
theorem e69_1_1 {L : Lo} {S : List Value} {h : Hp} : Run 69 1 L (.int 1 :: S) h = Run 69 77 L S h := Rg rfl
theorem e69_1_2 {L : Lo} {S : List Value} {h : Hp} : Run 69 1 L (.int 2 :: S) h = Run 69 93 L S h := Rg rfl
theorem e69_1_3 {L : Lo} {S : List Value} {h : Hp} : Run 69 1 L (.int 3 :: S) h = Run 69 98 L S h := Rg rfl
theorem e69_1_4 {L : Lo} {S : List Value} {h : Hp} : Run 69 1 L (.int 4 :: S) h = Run 69 103 L S h := Rg rfl
theorem e69_1_5 {L : Lo} {S : List Value} {h : Hp} : Run 69 1 L (.int 5 :: S) h = Run 69 108 L S h := Rg rfl
theorem e69_1_6 {L : Lo} {S : List Value} {h : Hp} : Run 69 1 L (.int 6 :: S) h = Run 69 113 L S h := Rg rfl
theorem e69_1_7 {L : Lo} {S : List Value} {h : Hp} : Run 69 1 L (.int 7 :: S) h = Run 69 118 L S h := Rg rfl
theorem e69_1_8 {L : Lo} {S : List Value} {h : Hp} : Run 69 1 L (.int 8 :: S) h = Run 69 123 L S h := Rg rfl
theorem e69_1_9 {L : Lo} {S : List Value} {h : Hp} : Run 69 1 L (.int 9 :: S) h = Run 69 128 L S h := Rg rfl
theorem e69_1_10 {L : Lo} {S : List Value} {h : Hp} : Run 69 1 L (.int 10 :: S) h = Run 69 133 L S h := Rg rfl
theorem e69_1_11 {L : Lo} {S : List Value} {h : Hp} : Run 69 1 L (.int 11 :: S) h = Run 69 138 L S h := Rg rfl
theorem e69_1_12 {L : Lo} {S : List Value} {h : Hp} : Run 69 1 L (.int 12 :: S) h = Run 69 143 L S h := Rg rfl
theorem e69_1_13 {L : Lo} {S : List Value} {h : Hp} : Run 69 1 L (.int 13 :: S) h = Run 69 153 L S h := Rg rfl
theorem e69_1_d {L : Lo} {S : List Value} {h : Hp} {x : Int32} (hx : x.toInt < 0 ∨ 13 < x.toInt) : Run 69 1 L (.int x :: S) h = Run 69 162 L S h := Rg (if_pos hx)
theorem e69_72 {L : Lo} {S : List Value} {h : Hp} {x0 : Option Value} {v : Nat} : Run 69 72 (x0 :: some (.ref v) :: L) S h = Run 69 73 (x0 :: some (.ref v) :: L) (.ref v :: S) h := Rg rfl
theorem e69_73 {L : Lo} {S : List Value} {h : Hp} {b : Nat} : Run 69 73 L (.ref b :: S) h = (gf h 7 0 b).bind fun v => Run 69 76 L (v :: S) h := Rb rfl fun _ => rfl
theorem e69_76 {L : Lo} {h : Hp} {x : Int32} : Run 69 76 L [.int x] h = some (.inl (some (.int x)), h) := Rd (if_pos (c := narrow .int (.int x) = .int x) rfl)
theorem e69_77 {L : Lo} {S : List Value} {h : Hp} {x0 : Option Value} {v : Nat} : Run 69 77 (x0 :: some (.ref v) :: L) S h = Run 69 78 (x0 :: some (.ref v) :: L) (.ref v :: S) h := Rg rfl
set_option maxRecDepth 100000 in
theorem e69_78 {L : Lo} {h : Hp} {a0 : Nat} (hO : isO h a0 7 = true) : Run 69 78 L [.ref a0] h = (Run 73 0 [some (.ref a0)] [] h).bind fun o => aft 69 78 81 L [] o := Rcv (c := 73) (As := []) (S' := []) (pc' := 81) 7 rfl hO
theorem e69_81 {L : Lo} {S : List Value} {h : Hp} {x : Int32} : Run 69 81 L (.int x :: S) h = if x = 0 then Run 69 91 L S h else Run 69 84 L S h := Rbr (c := cnd .eq x 0 = true) (off := 10) rfl rfl cnd_eq
theorem e69_84 {L : Lo} {S : List Value} {h : Hp} {x0 : Option Value} {v : Nat} : Run 69 84 (x0 :: some (.ref v) :: L) S h = Run 69 85 (x0 :: some (.ref v) :: L) (.ref v :: S) h := Rg rfl
theorem e69_85 {L : Lo} {S : List Value} {h : Hp} {b : Nat} : Run 69 85 L (.ref b :: S) h = (gf h 7 1 b).bind fun v => Run 69 88 L (v :: S) h := Rb rfl fun _ => rfl
theorem e69_88 {L : Lo} {S : List Value} {h : Hp} : Run 69 88 L S h = Run 69 92 L S h := Rg rfl
theorem e69_91 {L : Lo} {S : List Value} {h : Hp} : Run 69 91 L S h = Run 69 92 L (.int (-1) :: S) h := Rg rfl
theorem e69_92 {L : Lo} {h : Hp} {x : Int32} : Run 69 92 L [.int x] h = some (.inl (some (.int x)), h) := Rd (if_pos (c := narrow .int (.int x) = .int x) rfl)
theorem e69_93 {L : Lo} {S : List Value} {h : Hp} {x0 : Option Value} {v : Nat} : Run 69 93 (x0 :: some (.ref v) :: L) S h = Run 69 94 (x0 :: some (.ref v) :: L) (.ref v :: S) h := Rg rfl
theorem e69_94 {L : Lo} {S : List Value} {h : Hp} {b : Nat} : Run 69 94 L (.ref b :: S) h = (gf h 7 2 b).bind fun v => Run 69 97 L (v :: S) h := Rb rfl fun _ => rfl
theorem e69_97 {L : Lo} {h : Hp} {x : Int32} : Run 69 97 L [.int x] h = some (.inl (some (.int x)), h) := Rd (if_pos (c := narrow .int (.int x) = .int x) rfl)
theorem e69_98 {L : Lo} {S : List Value} {h : Hp} {x0 : Option Value} {v : Nat} : Run 69 98 (x0 :: some (.ref v) :: L) S h = Run 69 99 (x0 :: some (.ref v) :: L) (.ref v :: S) h := Rg rfl
theorem e69_99 {L : Lo} {S : List Value} {h : Hp} {b : Nat} : Run 69 99 L (.ref b :: S) h = (gf h 7 3 b).bind fun v => Run 69 102 L (v :: S) h := Rb rfl fun _ => rfl
theorem e69_102 {L : Lo} {h : Hp} {x : Int32} : Run 69 102 L [.int x] h = some (.inl (some (.int x)), h) := Rd (if_pos (c := narrow .int (.int x) = .int x) rfl)
theorem e69_103 {L : Lo} {S : List Value} {h : Hp} {x0 : Option Value} {v : Nat} : Run 69 103 (x0 :: some (.ref v) :: L) S h = Run 69 104 (x0 :: some (.ref v) :: L) (.ref v :: S) h := Rg rfl
theorem e69_104 {L : Lo} {S : List Value} {h : Hp} {b : Nat} : Run 69 104 L (.ref b :: S) h = (gf h 7 4 b).bind fun v => Run 69 107 L (v :: S) h := Rb rfl fun _ => rfl
theorem e69_107 {L : Lo} {h : Hp} {x : Int32} : Run 69 107 L [.int x] h = some (.inl (some (.int x)), h) := Rd (if_pos (c := narrow .int (.int x) = .int x) rfl)
theorem e69_108 {L : Lo} {S : List Value} {h : Hp} {x0 : Option Value} {v : Nat} : Run 69 108 (x0 :: some (.ref v) :: L) S h = Run 69 109 (x0 :: some (.ref v) :: L) (.ref v :: S) h := Rg rfl
theorem e69_109 {L : Lo} {S : List Value} {h : Hp} {b : Nat} : Run 69 109 L (.ref b :: S) h = (gf h 7 5 b).bind fun v => Run 69 112 L (v :: S) h := Rb rfl fun _ => rfl
theorem e69_112 {L : Lo} {h : Hp} {x : Int32} : Run 69 112 L [.int x] h = some (.inl (some (.int x)), h) := Rd (if_pos (c := narrow .int (.int x) = .int x) rfl)
theorem e69_113 {L : Lo} {S : List Value} {h : Hp} {x0 : Option Value} {v : Nat} : Run 69 113 (x0 :: some (.ref v) :: L) S h = Run 69 114 (x0 :: some (.ref v) :: L) (.ref v :: S) h := Rg rfl
theorem e69_114 {L : Lo} {S : List Value} {h : Hp} {b : Nat} : Run 69 114 L (.ref b :: S) h = (gf h 7 6 b).bind fun v => Run 69 117 L (v :: S) h := Rb rfl fun _ => rfl
theorem e69_117 {L : Lo} {h : Hp} {x : Int32} : Run 69 117 L [.int x] h = some (.inl (some (.int x)), h) := Rd (if_pos (c := narrow .int (.int x) = .int x) rfl)
theorem e69_118 {L : Lo} {S : List Value} {h : Hp} {x0 : Option Value} {v : Nat} : Run 69 118 (x0 :: some (.ref v) :: L) S h = Run 69 119 (x0 :: some (.ref v) :: L) (.ref v :: S) h := Rg rfl
theorem e69_119 {L : Lo} {S : List Value} {h : Hp} {b : Nat} : Run 69 119 L (.ref b :: S) h = (gf h 7 7 b).bind fun v => Run 69 122 L (v :: S) h := Rb rfl fun _ => rfl
theorem e69_122 {L : Lo} {h : Hp} {x : Int32} : Run 69 122 L [.int x] h = some (.inl (some (.int x)), h) := Rd (if_pos (c := narrow .int (.int x) = .int x) rfl)
theorem e69_123 {L : Lo} {S : List Value} {h : Hp} {x0 : Option Value} {v : Nat} : Run 69 123 (x0 :: some (.ref v) :: L) S h = Run 69 124 (x0 :: some (.ref v) :: L) (.ref v :: S) h := Rg rfl
theorem e69_124 {L : Lo} {S : List Value} {h : Hp} {b : Nat} : Run 69 124 L (.ref b :: S) h = (gf h 7 9 b).bind fun v => Run 69 127 L (v :: S) h := Rb rfl fun _ => rfl
theorem e69_127 {L : Lo} {h : Hp} {x : Int32} : Run 69 127 L [.int x] h = some (.inl (some (.int x)), h) := Rd (if_pos (c := narrow .int (.int x) = .int x) rfl)
theorem e69_128 {L : Lo} {S : List Value} {h : Hp} {x0 : Option Value} {v : Nat} : Run 69 128 (x0 :: some (.ref v) :: L) S h = Run 69 129 (x0 :: some (.ref v) :: L) (.ref v :: S) h := Rg rfl
theorem e69_129 {L : Lo} {S : List Value} {h : Hp} {b : Nat} : Run 69 129 L (.ref b :: S) h = (gf h 7 10 b).bind fun v => Run 69 132 L (v :: S) h := Rb rfl fun _ => rfl
theorem e69_132 {L : Lo} {h : Hp} {x : Int32} : Run 69 132 L [.int x] h = some (.inl (some (.int x)), h) := Rd (if_pos (c := narrow .int (.int x) = .int x) rfl)
theorem e69_133 {L : Lo} {S : List Value} {h : Hp} {x0 : Option Value} {v : Nat} : Run 69 133 (x0 :: some (.ref v) :: L) S h = Run 69 134 (x0 :: some (.ref v) :: L) (.ref v :: S) h := Rg rfl
theorem e69_134 {L : Lo} {S : List Value} {h : Hp} {b : Nat} : Run 69 134 L (.ref b :: S) h = (gf h 7 11 b).bind fun v => Run 69 137 L (v :: S) h := Rb rfl fun _ => rfl
theorem e69_137 {L : Lo} {h : Hp} {x : Int32} : Run 69 137 L [.int x] h = some (.inl (some (.int x)), h) := Rd (if_pos (c := narrow .int (.int x) = .int x) rfl)
theorem e69_138 {L : Lo} {S : List Value} {h : Hp} {x0 : Option Value} {v : Nat} : Run 69 138 (x0 :: some (.ref v) :: L) S h = Run 69 139 (x0 :: some (.ref v) :: L) (.ref v :: S) h := Rg rfl
theorem e69_139 {L : Lo} {S : List Value} {h : Hp} {b : Nat} : Run 69 139 L (.ref b :: S) h = (gf h 7 12 b).bind fun v => Run 69 142 L (v :: S) h := Rb rfl fun _ => rfl
theorem e69_142 {L : Lo} {h : Hp} {x : Int32} : Run 69 142 L [.int x] h = some (.inl (some (.int x)), h) := Rd (if_pos (c := narrow .int (.int x) = .int x) rfl)
theorem e69_143 {L : Lo} {S : List Value} {h : Hp} {v : Nat} : Run 69 143 (some (.ref v) :: L) S h = Run 69 144 (some (.ref v) :: L) (.ref v :: S) h := Rg rfl
theorem e69_144 {L : Lo} {S : List Value} {h : Hp} {x0 : Option Value} {v : Nat} : Run 69 144 (x0 :: some (.ref v) :: L) S h = Run 69 145 (x0 :: some (.ref v) :: L) (.ref v :: S) h := Rg rfl
theorem e69_145 {L : Lo} {S : List Value} {h : Hp} {v : Nat} : Run 69 145 (some (.ref v) :: L) S h = Run 69 146 (some (.ref v) :: L) (.ref v :: S) h := Rg rfl
theorem e69_146 {L : Lo} {S : List Value} {h : Hp} {b : Nat} : Run 69 146 L (.ref b :: S) h = (gf h 6 2 b).bind fun v => Run 69 149 L (v :: S) h := Rb rfl fun _ => rfl
set_option maxRecDepth 100000 in
theorem e69_149 {L : Lo} {h : Hp} {a2 : Int32} {a1 : Nat} {a0 : Nat} (hO : isO h a0 6 = true) : Run 69 149 L [.int a2, .ref a1, .ref a0] h = (Run 60 0 [some (.ref a0), some (.ref a1), some (.int a2), none] [] h).bind fun o => aft 69 149 152 L [] o := Rcv (c := 60) (As := [.ref a1, .int a2]) (S' := []) (pc' := 152) 6 rfl hO
theorem e69_152 {L : Lo} {h : Hp} {x : Int32} : Run 69 152 L [.int x] h = some (.inl (some (.int x)), h) := Rd (if_pos (c := narrow .int (.int x) = .int x) rfl)
theorem e69_153 {L : Lo} {S : List Value} {h : Hp} {v : Nat} : Run 69 153 (some (.ref v) :: L) S h = Run 69 154 (some (.ref v) :: L) (.ref v :: S) h := Rg rfl
theorem e69_154 {L : Lo} {S : List Value} {h : Hp} {x0 : Option Value} {v : Nat} : Run 69 154 (x0 :: some (.ref v) :: L) S h = Run 69 155 (x0 :: some (.ref v) :: L) (.ref v :: S) h := Rg rfl
theorem e69_155 {L : Lo} {S : List Value} {h : Hp} {b : Nat} : Run 69 155 L (.ref b :: S) h = (gf h 7 2 b).bind fun v => Run 69 158 L (v :: S) h := Rb rfl fun _ => rfl
set_option maxRecDepth 100000 in
theorem e69_158 {L : Lo} {h : Hp} {a1 : Int32} {a0 : Nat} (hO : isO h a0 6 = true) : Run 69 158 L [.int a1, .ref a0] h = (Run 57 0 [some (.ref a0), some (.int a1)] [] h).bind fun o => aft 69 158 161 L [] o := Rcv (c := 57) (As := [.int a1]) (S' := []) (pc' := 161) 6 rfl hO
theorem e69_161 {L : Lo} {h : Hp} {x : Int32} : Run 69 161 L [.int x] h = some (.inl (some (.int x)), h) := Rd (if_pos (c := narrow .int (.int x) = .int x) rfl)
theorem e69_162 {L : Lo} {S : List Value} {h : Hp} {x0 : Option Value} {v : Nat} : Run 69 162 (x0 :: some (.ref v) :: L) S h = Run 69 163 (x0 :: some (.ref v) :: L) (.ref v :: S) h := Rg rfl
theorem e69_163 {L : Lo} {S : List Value} {h : Hp} {b : Nat} : Run 69 163 L (.ref b :: S) h = (gf h 7 13 b).bind fun v => Run 69 166 L (v :: S) h := Rb rfl fun _ => rfl
theorem e69_166 {L : Lo} {S : List Value} {h : Hp} {x : Int32} : Run 69 166 L (.int x :: S) h = if x = 0 then Run 69 173 L S h else Run 69 169 L S h := Rbr (c := cnd .eq x 0 = true) (off := 7) rfl rfl cnd_eq
theorem e69_169 {L : Lo} {S : List Value} {h : Hp} : Run 69 169 L S h = Run 69 170 L (.int 1 :: S) h := Rg rfl
theorem e69_170 {L : Lo} {S : List Value} {h : Hp} : Run 69 170 L S h = Run 69 174 L S h := Rg rfl
theorem e69_173 {L : Lo} {S : List Value} {h : Hp} : Run 69 173 L S h = Run 69 174 L (.int 0 :: S) h := Rg rfl
theorem e69_174 {L : Lo} {h : Hp} {x : Int32} : Run 69 174 L [.int x] h = some (.inl (some (.int x)), h) := Rd (if_pos (c := narrow .int (.int x) = .int x) rfl)
theorem e70_0 {L : Lo} {S : List Value} {h : Hp} {v : Nat} : Run 70 0 (some (.ref v) :: L) S h = Run 70 1 (some (.ref v) :: L) (.ref v :: S) h := Rg rfl
theorem e70_1 {L : Lo} {h : Hp} {a0 : Nat} : Run 70 1 L [.ref a0] h = Run 70 4 L [] h := Rg rfl
theorem e70_4 {L : Lo} {h : Hp} : Run 70 4 L [] h = some (.inl none, h) := Rd rfl
theorem e71_0 {L : Lo} {S : List Value} {h : Hp} {v : Nat} : Run 71 0 (some (.ref v) :: L) S h = Run 71 1 (some (.ref v) :: L) (.ref v :: S) h := Rg rfl
theorem e71_1 {L : Lo} {S : List Value} {h : Hp} {x0 : Option Value} {v : Int32} : Run 71 1 (x0 :: some (.int v) :: L) S h = Run 71 2 (x0 :: some (.int v) :: L) (.int v :: S) h := Rg rfl
theorem e71_2 {L : Lo} {S : List Value} {h : Hp} {b : Nat} {v : Value} : Run 71 2 L (v :: .ref b :: S) h = (pf h 7 0 b v).bind fun h1 => Run 71 5 L S h1 := Rb rfl fun _ => rfl
theorem e71_5 {L : Lo} {S : List Value} {h : Hp} {v : Nat} : Run 71 5 (some (.ref v) :: L) S h = Run 71 6 (some (.ref v) :: L) (.ref v :: S) h := Rg rfl
theorem e71_6 {L : Lo} {S : List Value} {h : Hp} {x0 x1 : Option Value} {v : Int32} : Run 71 6 (x0 :: x1 :: some (.int v) :: L) S h = Run 71 7 (x0 :: x1 :: some (.int v) :: L) (.int v :: S) h := Rg rfl
theorem e71_7 {L : Lo} {S : List Value} {h : Hp} {b : Nat} {v : Value} : Run 71 7 L (v :: .ref b :: S) h = (pf h 7 1 b v).bind fun h1 => Run 71 10 L S h1 := Rb rfl fun _ => rfl
theorem e71_10 {L : Lo} {S : List Value} {h : Hp} {v : Nat} : Run 71 10 (some (.ref v) :: L) S h = Run 71 11 (some (.ref v) :: L) (.ref v :: S) h := Rg rfl
theorem e71_11 {L : Lo} {S : List Value} {h : Hp} {x0 x1 x2 : Option Value} {v : Int32} : Run 71 11 (x0 :: x1 :: x2 :: some (.int v) :: L) S h = Run 71 12 (x0 :: x1 :: x2 :: some (.int v) :: L) (.int v :: S) h := Rg rfl
theorem e71_12 {L : Lo} {S : List Value} {h : Hp} {b : Nat} {v : Value} : Run 71 12 L (v :: .ref b :: S) h = (pf h 7 2 b v).bind fun h1 => Run 71 15 L S h1 := Rb rfl fun _ => rfl
theorem e71_15 {L : Lo} {S : List Value} {h : Hp} {v : Nat} : Run 71 15 (some (.ref v) :: L) S h = Run 71 16 (some (.ref v) :: L) (.ref v :: S) h := Rg rfl
theorem e71_16 {L : Lo} {S : List Value} {h : Hp} {x0 x1 x2 x3 : Option Value} {v : Int32} : Run 71 16 (x0 :: x1 :: x2 :: x3 :: some (.int v) :: L) S h = Run 71 18 (x0 :: x1 :: x2 :: x3 :: some (.int v) :: L) (.int v :: S) h := Rg rfl
theorem e71_18 {L : Lo} {S : List Value} {h : Hp} {b : Nat} {v : Value} : Run 71 18 L (v :: .ref b :: S) h = (pf h 7 3 b v).bind fun h1 => Run 71 21 L S h1 := Rb rfl fun _ => rfl
theorem e71_21 {L : Lo} {S : List Value} {h : Hp} {v : Nat} : Run 71 21 (some (.ref v) :: L) S h = Run 71 22 (some (.ref v) :: L) (.ref v :: S) h := Rg rfl
theorem e71_22 {L : Lo} {S : List Value} {h : Hp} : Run 71 22 L S h = Run 71 24 L (.int 20 :: S) h := Rg rfl
theorem e71_24 {L : Lo} {S : List Value} {h : Hp} {b : Nat} {v : Value} : Run 71 24 L (v :: .ref b :: S) h = (pf h 7 4 b v).bind fun h1 => Run 71 27 L S h1 := Rb rfl fun _ => rfl
theorem e71_27 {L : Lo} {S : List Value} {h : Hp} {v : Nat} : Run 71 27 (some (.ref v) :: L) S h = Run 71 28 (some (.ref v) :: L) (.ref v :: S) h := Rg rfl
theorem e71_28 {L : Lo} {S : List Value} {h : Hp} {x0 x1 x2 x3 x4 : Option Value} {v : Int32} : Run 71 28 (x0 :: x1 :: x2 :: x3 :: x4 :: some (.int v) :: L) S h = Run 71 30 (x0 :: x1 :: x2 :: x3 :: x4 :: some (.int v) :: L) (.int v :: S) h := Rg rfl
theorem e71_30 {L : Lo} {S : List Value} {h : Hp} {b : Nat} {v : Value} : Run 71 30 L (v :: .ref b :: S) h = (pf h 7 5 b v).bind fun h1 => Run 71 33 L S h1 := Rb rfl fun _ => rfl
theorem e71_33 {L : Lo} {S : List Value} {h : Hp} {v : Nat} : Run 71 33 (some (.ref v) :: L) S h = Run 71 34 (some (.ref v) :: L) (.ref v :: S) h := Rg rfl
theorem e71_34 {L : Lo} {S : List Value} {h : Hp} {x0 x1 x2 x3 x4 : Option Value} {v : Int32} : Run 71 34 (x0 :: x1 :: x2 :: x3 :: x4 :: some (.int v) :: L) S h = Run 71 36 (x0 :: x1 :: x2 :: x3 :: x4 :: some (.int v) :: L) (.int v :: S) h := Rg rfl
theorem e71_36 {L : Lo} {S : List Value} {h : Hp} {b : Nat} {v : Value} : Run 71 36 L (v :: .ref b :: S) h = (pf h 7 6 b v).bind fun h1 => Run 71 39 L S h1 := Rb rfl fun _ => rfl
theorem e71_39 {L : Lo} {S : List Value} {h : Hp} {v : Nat} : Run 71 39 (some (.ref v) :: L) S h = Run 71 40 (some (.ref v) :: L) (.ref v :: S) h := Rg rfl
theorem e71_40 {L : Lo} {S : List Value} {h : Hp} {x0 x1 x2 x3 x4 x5 : Option Value} {v : Int32} : Run 71 40 (x0 :: x1 :: x2 :: x3 :: x4 :: x5 :: some (.int v) :: L) S h = Run 71 42 (x0 :: x1 :: x2 :: x3 :: x4 :: x5 :: some (.int v) :: L) (.int v :: S) h := Rg rfl
theorem e71_42 {L : Lo} {S : List Value} {h : Hp} {b : Nat} {v : Value} : Run 71 42 L (v :: .ref b :: S) h = (pf h 7 7 b v).bind fun h1 => Run 71 45 L S h1 := Rb rfl fun _ => rfl
theorem e71_45 {L : Lo} {S : List Value} {h : Hp} {v : Nat} : Run 71 45 (some (.ref v) :: L) S h = Run 71 46 (some (.ref v) :: L) (.ref v :: S) h := Rg rfl
theorem e71_46 {L : Lo} {S : List Value} {h : Hp} {x0 x1 x2 x3 x4 x5 : Option Value} {v : Int32} : Run 71 46 (x0 :: x1 :: x2 :: x3 :: x4 :: x5 :: some (.int v) :: L) S h = Run 71 48 (x0 :: x1 :: x2 :: x3 :: x4 :: x5 :: some (.int v) :: L) (.int v :: S) h := Rg rfl
theorem e71_48 {L : Lo} {S : List Value} {h : Hp} {b : Nat} {v : Value} : Run 71 48 L (v :: .ref b :: S) h = (pf h 7 8 b v).bind fun h1 => Run 71 51 L S h1 := Rb rfl fun _ => rfl
theorem e71_51 {L : Lo} {S : List Value} {h : Hp} {v : Nat} : Run 71 51 (some (.ref v) :: L) S h = Run 71 52 (some (.ref v) :: L) (.ref v :: S) h := Rg rfl
theorem e71_52 {L : Lo} {S : List Value} {h : Hp} : Run 71 52 L S h = Run 71 53 L (.int 0 :: S) h := Rg rfl
theorem e71_53 {L : Lo} {S : List Value} {h : Hp} {b : Nat} {v : Value} : Run 71 53 L (v :: .ref b :: S) h = (pf h 7 9 b v).bind fun h1 => Run 71 56 L S h1 := Rb rfl fun _ => rfl
theorem e71_56 {L : Lo} {S : List Value} {h : Hp} {v : Nat} : Run 71 56 (some (.ref v) :: L) S h = Run 71 57 (some (.ref v) :: L) (.ref v :: S) h := Rg rfl
theorem e71_57 {L : Lo} {S : List Value} {h : Hp} : Run 71 57 L S h = Run 71 58 L (.int 0 :: S) h := Rg rfl
theorem e71_58 {L : Lo} {S : List Value} {h : Hp} {b : Nat} {v : Value} : Run 71 58 L (v :: .ref b :: S) h = (pf h 7 10 b v).bind fun h1 => Run 71 61 L S h1 := Rb rfl fun _ => rfl
theorem e71_61 {L : Lo} {S : List Value} {h : Hp} {v : Nat} : Run 71 61 (some (.ref v) :: L) S h = Run 71 62 (some (.ref v) :: L) (.ref v :: S) h := Rg rfl
theorem e71_62 {L : Lo} {S : List Value} {h : Hp} : Run 71 62 L S h = Run 71 63 L (.int 0 :: S) h := Rg rfl
theorem e71_63 {L : Lo} {S : List Value} {h : Hp} {b : Nat} {v : Value} : Run 71 63 L (v :: .ref b :: S) h = (pf h 7 11 b v).bind fun h1 => Run 71 66 L S h1 := Rb rfl fun _ => rfl
theorem e71_66 {L : Lo} {S : List Value} {h : Hp} {v : Nat} : Run 71 66 (some (.ref v) :: L) S h = Run 71 67 (some (.ref v) :: L) (.ref v :: S) h := Rg rfl
theorem e71_67 {L : Lo} {S : List Value} {h : Hp} : Run 71 67 L S h = Run 71 68 L (.int (-1) :: S) h := Rg rfl
theorem e71_68 {L : Lo} {S : List Value} {h : Hp} {b : Nat} {v : Value} : Run 71 68 L (v :: .ref b :: S) h = (pf h 7 12 b v).bind fun h1 => Run 71 71 L S h1 := Rb rfl fun _ => rfl
theorem e71_71 {L : Lo} {S : List Value} {h : Hp} {v : Nat} : Run 71 71 (some (.ref v) :: L) S h = Run 71 72 (some (.ref v) :: L) (.ref v :: S) h := Rg rfl
theorem e71_72 {L : Lo} {S : List Value} {h : Hp} : Run 71 72 L S h = Run 71 73 L (.int 0 :: S) h := Rg rfl
theorem e71_73 {L : Lo} {S : List Value} {h : Hp} {b : Nat} {v : Value} : Run 71 73 L (v :: .ref b :: S) h = (pf h 7 13 b v).bind fun h1 => Run 71 76 L S h1 := Rb rfl fun _ => rfl
theorem e71_76 {L : Lo} {S : List Value} {h : Hp} {v : Nat} : Run 71 76 (some (.ref v) :: L) S h = Run 71 77 (some (.ref v) :: L) (.ref v :: S) h := Rg rfl
theorem e71_77 {L : Lo} {S : List Value} {h : Hp} : Run 71 77 L S h = Run 71 78 L (.int 0 :: S) h := Rg rfl
theorem e71_78 {L : Lo} {S : List Value} {h : Hp} {b : Nat} {v : Value} : Run 71 78 L (v :: .ref b :: S) h = (pf h 7 14 b v).bind fun h1 => Run 71 81 L S h1 := Rb rfl fun _ => rfl
theorem e71_81 {L : Lo} {h : Hp} : Run 71 81 L [] h = some (.inl none, h) := Rd rfl
theorem e72_0 {L : Lo} {S : List Value} {h : Hp} {v : Nat} : Run 72 0 (some (.ref v) :: L) S h = Run 72 1 (some (.ref v) :: L) (.ref v :: S) h := Rg rfl
theorem e72_1 {L : Lo} {S : List Value} {h : Hp} {x0 : Option Value} {v : Nat} : Run 72 1 (x0 :: some (.ref v) :: L) S h = Run 72 2 (x0 :: some (.ref v) :: L) (.ref v :: S) h := Rg rfl
theorem e72_2 {L : Lo} {S : List Value} {h : Hp} {b : Nat} : Run 72 2 L (.ref b :: S) h = (gf h 7 0 b).bind fun v => Run 72 5 L (v :: S) h := Rb rfl fun _ => rfl
theorem e72_5 {L : Lo} {S : List Value} {h : Hp} {b : Nat} {v : Value} : Run 72 5 L (v :: .ref b :: S) h = (pf h 7 0 b v).bind fun h1 => Run 72 8 L S h1 := Rb rfl fun _ => rfl
theorem e72_8 {L : Lo} {S : List Value} {h : Hp} {v : Nat} : Run 72 8 (some (.ref v) :: L) S h = Run 72 9 (some (.ref v) :: L) (.ref v :: S) h := Rg rfl
theorem e72_9 {L : Lo} {S : List Value} {h : Hp} {x0 : Option Value} {v : Nat} : Run 72 9 (x0 :: some (.ref v) :: L) S h = Run 72 10 (x0 :: some (.ref v) :: L) (.ref v :: S) h := Rg rfl
theorem e72_10 {L : Lo} {S : List Value} {h : Hp} {b : Nat} : Run 72 10 L (.ref b :: S) h = (gf h 7 1 b).bind fun v => Run 72 13 L (v :: S) h := Rb rfl fun _ => rfl
theorem e72_13 {L : Lo} {S : List Value} {h : Hp} {b : Nat} {v : Value} : Run 72 13 L (v :: .ref b :: S) h = (pf h 7 1 b v).bind fun h1 => Run 72 16 L S h1 := Rb rfl fun _ => rfl
theorem e72_16 {L : Lo} {S : List Value} {h : Hp} {v : Nat} : Run 72 16 (some (.ref v) :: L) S h = Run 72 17 (some (.ref v) :: L) (.ref v :: S) h := Rg rfl
theorem e72_17 {L : Lo} {S : List Value} {h : Hp} {x0 : Option Value} {v : Nat} : Run 72 17 (x0 :: some (.ref v) :: L) S h = Run 72 18 (x0 :: some (.ref v) :: L) (.ref v :: S) h := Rg rfl
theorem e72_18 {L : Lo} {S : List Value} {h : Hp} {b : Nat} : Run 72 18 L (.ref b :: S) h = (gf h 7 2 b).bind fun v => Run 72 21 L (v :: S) h := Rb rfl fun _ => rfl
theorem e72_21 {L : Lo} {S : List Value} {h : Hp} {b : Nat} {v : Value} : Run 72 21 L (v :: .ref b :: S) h = (pf h 7 2 b v).bind fun h1 => Run 72 24 L S h1 := Rb rfl fun _ => rfl
theorem e72_24 {L : Lo} {S : List Value} {h : Hp} {v : Nat} : Run 72 24 (some (.ref v) :: L) S h = Run 72 25 (some (.ref v) :: L) (.ref v :: S) h := Rg rfl
theorem e72_25 {L : Lo} {S : List Value} {h : Hp} {x0 : Option Value} {v : Nat} : Run 72 25 (x0 :: some (.ref v) :: L) S h = Run 72 26 (x0 :: some (.ref v) :: L) (.ref v :: S) h := Rg rfl
theorem e72_26 {L : Lo} {S : List Value} {h : Hp} {b : Nat} : Run 72 26 L (.ref b :: S) h = (gf h 7 3 b).bind fun v => Run 72 29 L (v :: S) h := Rb rfl fun _ => rfl
theorem e72_29 {L : Lo} {S : List Value} {h : Hp} {b : Nat} {v : Value} : Run 72 29 L (v :: .ref b :: S) h = (pf h 7 3 b v).bind fun h1 => Run 72 32 L S h1 := Rb rfl fun _ => rfl
theorem e72_32 {L : Lo} {S : List Value} {h : Hp} {v : Nat} : Run 72 32 (some (.ref v) :: L) S h = Run 72 33 (some (.ref v) :: L) (.ref v :: S) h := Rg rfl
theorem e72_33 {L : Lo} {S : List Value} {h : Hp} {x0 : Option Value} {v : Nat} : Run 72 33 (x0 :: some (.ref v) :: L) S h = Run 72 34 (x0 :: some (.ref v) :: L) (.ref v :: S) h := Rg rfl
theorem e72_34 {L : Lo} {S : List Value} {h : Hp} {b : Nat} : Run 72 34 L (.ref b :: S) h = (gf h 7 4 b).bind fun v => Run 72 37 L (v :: S) h := Rb rfl fun _ => rfl
theorem e72_37 {L : Lo} {S : List Value} {h : Hp} {b : Nat} {v : Value} : Run 72 37 L (v :: .ref b :: S) h = (pf h 7 4 b v).bind fun h1 => Run 72 40 L S h1 := Rb rfl fun _ => rfl
theorem e72_40 {L : Lo} {S : List Value} {h : Hp} {v : Nat} : Run 72 40 (some (.ref v) :: L) S h = Run 72 41 (some (.ref v) :: L) (.ref v :: S) h := Rg rfl
theorem e72_41 {L : Lo} {S : List Value} {h : Hp} {x0 : Option Value} {v : Nat} : Run 72 41 (x0 :: some (.ref v) :: L) S h = Run 72 42 (x0 :: some (.ref v) :: L) (.ref v :: S) h := Rg rfl
theorem e72_42 {L : Lo} {S : List Value} {h : Hp} {b : Nat} : Run 72 42 L (.ref b :: S) h = (gf h 7 5 b).bind fun v => Run 72 45 L (v :: S) h := Rb rfl fun _ => rfl
theorem e72_45 {L : Lo} {S : List Value} {h : Hp} {b : Nat} {v : Value} : Run 72 45 L (v :: .ref b :: S) h = (pf h 7 5 b v).bind fun h1 => Run 72 48 L S h1 := Rb rfl fun _ => rfl
theorem e72_48 {L : Lo} {S : List Value} {h : Hp} {v : Nat} : Run 72 48 (some (.ref v) :: L) S h = Run 72 49 (some (.ref v) :: L) (.ref v :: S) h := Rg rfl
theorem e72_49 {L : Lo} {S : List Value} {h : Hp} {x0 : Option Value} {v : Nat} : Run 72 49 (x0 :: some (.ref v) :: L) S h = Run 72 50 (x0 :: some (.ref v) :: L) (.ref v :: S) h := Rg rfl
theorem e72_50 {L : Lo} {S : List Value} {h : Hp} {b : Nat} : Run 72 50 L (.ref b :: S) h = (gf h 7 6 b).bind fun v => Run 72 53 L (v :: S) h := Rb rfl fun _ => rfl
theorem e72_53 {L : Lo} {S : List Value} {h : Hp} {b : Nat} {v : Value} : Run 72 53 L (v :: .ref b :: S) h = (pf h 7 6 b v).bind fun h1 => Run 72 56 L S h1 := Rb rfl fun _ => rfl
theorem e72_56 {L : Lo} {S : List Value} {h : Hp} {v : Nat} : Run 72 56 (some (.ref v) :: L) S h = Run 72 57 (some (.ref v) :: L) (.ref v :: S) h := Rg rfl
theorem e72_57 {L : Lo} {S : List Value} {h : Hp} {x0 : Option Value} {v : Nat} : Run 72 57 (x0 :: some (.ref v) :: L) S h = Run 72 58 (x0 :: some (.ref v) :: L) (.ref v :: S) h := Rg rfl
theorem e72_58 {L : Lo} {S : List Value} {h : Hp} {b : Nat} : Run 72 58 L (.ref b :: S) h = (gf h 7 7 b).bind fun v => Run 72 61 L (v :: S) h := Rb rfl fun _ => rfl
theorem e72_61 {L : Lo} {S : List Value} {h : Hp} {b : Nat} {v : Value} : Run 72 61 L (v :: .ref b :: S) h = (pf h 7 7 b v).bind fun h1 => Run 72 64 L S h1 := Rb rfl fun _ => rfl
theorem e72_64 {L : Lo} {S : List Value} {h : Hp} {v : Nat} : Run 72 64 (some (.ref v) :: L) S h = Run 72 65 (some (.ref v) :: L) (.ref v :: S) h := Rg rfl
theorem e72_65 {L : Lo} {S : List Value} {h : Hp} {x0 : Option Value} {v : Nat} : Run 72 65 (x0 :: some (.ref v) :: L) S h = Run 72 66 (x0 :: some (.ref v) :: L) (.ref v :: S) h := Rg rfl
theorem e72_66 {L : Lo} {S : List Value} {h : Hp} {b : Nat} : Run 72 66 L (.ref b :: S) h = (gf h 7 8 b).bind fun v => Run 72 69 L (v :: S) h := Rb rfl fun _ => rfl
theorem e72_69 {L : Lo} {S : List Value} {h : Hp} {b : Nat} {v : Value} : Run 72 69 L (v :: .ref b :: S) h = (pf h 7 8 b v).bind fun h1 => Run 72 72 L S h1 := Rb rfl fun _ => rfl
theorem e72_72 {L : Lo} {S : List Value} {h : Hp} {v : Nat} : Run 72 72 (some (.ref v) :: L) S h = Run 72 73 (some (.ref v) :: L) (.ref v :: S) h := Rg rfl
theorem e72_73 {L : Lo} {S : List Value} {h : Hp} {x0 : Option Value} {v : Nat} : Run 72 73 (x0 :: some (.ref v) :: L) S h = Run 72 74 (x0 :: some (.ref v) :: L) (.ref v :: S) h := Rg rfl
theorem e72_74 {L : Lo} {S : List Value} {h : Hp} {b : Nat} : Run 72 74 L (.ref b :: S) h = (gf h 7 9 b).bind fun v => Run 72 77 L (v :: S) h := Rb rfl fun _ => rfl
theorem e72_77 {L : Lo} {S : List Value} {h : Hp} {b : Nat} {v : Value} : Run 72 77 L (v :: .ref b :: S) h = (pf h 7 9 b v).bind fun h1 => Run 72 80 L S h1 := Rb rfl fun _ => rfl
theorem e72_80 {L : Lo} {S : List Value} {h : Hp} {v : Nat} : Run 72 80 (some (.ref v) :: L) S h = Run 72 81 (some (.ref v) :: L) (.ref v :: S) h := Rg rfl
theorem e72_81 {L : Lo} {S : List Value} {h : Hp} {x0 : Option Value} {v : Nat} : Run 72 81 (x0 :: some (.ref v) :: L) S h = Run 72 82 (x0 :: some (.ref v) :: L) (.ref v :: S) h := Rg rfl
theorem e72_82 {L : Lo} {S : List Value} {h : Hp} {b : Nat} : Run 72 82 L (.ref b :: S) h = (gf h 7 10 b).bind fun v => Run 72 85 L (v :: S) h := Rb rfl fun _ => rfl
theorem e72_85 {L : Lo} {S : List Value} {h : Hp} {b : Nat} {v : Value} : Run 72 85 L (v :: .ref b :: S) h = (pf h 7 10 b v).bind fun h1 => Run 72 88 L S h1 := Rb rfl fun _ => rfl
theorem e72_88 {L : Lo} {S : List Value} {h : Hp} {v : Nat} : Run 72 88 (some (.ref v) :: L) S h = Run 72 89 (some (.ref v) :: L) (.ref v :: S) h := Rg rfl
theorem e72_89 {L : Lo} {S : List Value} {h : Hp} {x0 : Option Value} {v : Nat} : Run 72 89 (x0 :: some (.ref v) :: L) S h = Run 72 90 (x0 :: some (.ref v) :: L) (.ref v :: S) h := Rg rfl
theorem e72_90 {L : Lo} {S : List Value} {h : Hp} {b : Nat} : Run 72 90 L (.ref b :: S) h = (gf h 7 11 b).bind fun v => Run 72 93 L (v :: S) h := Rb rfl fun _ => rfl
theorem e72_93 {L : Lo} {S : List Value} {h : Hp} {b : Nat} {v : Value} : Run 72 93 L (v :: .ref b :: S) h = (pf h 7 11 b v).bind fun h1 => Run 72 96 L S h1 := Rb rfl fun _ => rfl
theorem e72_96 {L : Lo} {S : List Value} {h : Hp} {v : Nat} : Run 72 96 (some (.ref v) :: L) S h = Run 72 97 (some (.ref v) :: L) (.ref v :: S) h := Rg rfl
theorem e72_97 {L : Lo} {S : List Value} {h : Hp} {x0 : Option Value} {v : Nat} : Run 72 97 (x0 :: some (.ref v) :: L) S h = Run 72 98 (x0 :: some (.ref v) :: L) (.ref v :: S) h := Rg rfl
theorem e72_98 {L : Lo} {S : List Value} {h : Hp} {b : Nat} : Run 72 98 L (.ref b :: S) h = (gf h 7 12 b).bind fun v => Run 72 101 L (v :: S) h := Rb rfl fun _ => rfl
theorem e72_101 {L : Lo} {S : List Value} {h : Hp} {b : Nat} {v : Value} : Run 72 101 L (v :: .ref b :: S) h = (pf h 7 12 b v).bind fun h1 => Run 72 104 L S h1 := Rb rfl fun _ => rfl
theorem e72_104 {L : Lo} {S : List Value} {h : Hp} {v : Nat} : Run 72 104 (some (.ref v) :: L) S h = Run 72 105 (some (.ref v) :: L) (.ref v :: S) h := Rg rfl
theorem e72_105 {L : Lo} {S : List Value} {h : Hp} {x0 : Option Value} {v : Nat} : Run 72 105 (x0 :: some (.ref v) :: L) S h = Run 72 106 (x0 :: some (.ref v) :: L) (.ref v :: S) h := Rg rfl
theorem e72_106 {L : Lo} {S : List Value} {h : Hp} {b : Nat} : Run 72 106 L (.ref b :: S) h = (gf h 7 13 b).bind fun v => Run 72 109 L (v :: S) h := Rb rfl fun _ => rfl
theorem e72_109 {L : Lo} {S : List Value} {h : Hp} {b : Nat} {v : Value} : Run 72 109 L (v :: .ref b :: S) h = (pf h 7 13 b v).bind fun h1 => Run 72 112 L S h1 := Rb rfl fun _ => rfl
theorem e72_112 {L : Lo} {S : List Value} {h : Hp} {v : Nat} : Run 72 112 (some (.ref v) :: L) S h = Run 72 113 (some (.ref v) :: L) (.ref v :: S) h := Rg rfl
theorem e72_113 {L : Lo} {S : List Value} {h : Hp} {x0 : Option Value} {v : Nat} : Run 72 113 (x0 :: some (.ref v) :: L) S h = Run 72 114 (x0 :: some (.ref v) :: L) (.ref v :: S) h := Rg rfl
theorem e72_114 {L : Lo} {S : List Value} {h : Hp} {b : Nat} : Run 72 114 L (.ref b :: S) h = (gf h 7 14 b).bind fun v => Run 72 117 L (v :: S) h := Rb rfl fun _ => rfl
theorem e72_117 {L : Lo} {S : List Value} {h : Hp} {b : Nat} {v : Value} : Run 72 117 L (v :: .ref b :: S) h = (pf h 7 14 b v).bind fun h1 => Run 72 120 L S h1 := Rb rfl fun _ => rfl
theorem e72_120 {L : Lo} {h : Hp} : Run 72 120 L [] h = some (.inl none, h) := Rd rfl
theorem e73_0 {L : Lo} {S : List Value} {h : Hp} {v : Nat} : Run 73 0 (some (.ref v) :: L) S h = Run 73 1 (some (.ref v) :: L) (.ref v :: S) h := Rg rfl
theorem e73_1 {L : Lo} {S : List Value} {h : Hp} {b : Nat} : Run 73 1 L (.ref b :: S) h = (gf h 7 3 b).bind fun v => Run 73 4 L (v :: S) h := Rb rfl fun _ => rfl
theorem e73_4 {L : Lo} {S : List Value} {h : Hp} {x : Int32} : Run 73 4 L (.int x :: S) h = if x ≤ 0 then Run 73 11 L S h else Run 73 7 L S h := Rbr (c := cnd .le x 0 = true) (off := 7) rfl rfl cnd_le
theorem e73_7 {L : Lo} {S : List Value} {h : Hp} : Run 73 7 L S h = Run 73 8 L (.int 1 :: S) h := Rg rfl
theorem e73_8 {L : Lo} {S : List Value} {h : Hp} : Run 73 8 L S h = Run 73 12 L S h := Rg rfl
theorem e73_11 {L : Lo} {S : List Value} {h : Hp} : Run 73 11 L S h = Run 73 12 L (.int 0 :: S) h := Rg rfl
theorem e73_12 {L : Lo} {h : Hp} {x : Int32} (hx : narrow .boolean (.int x) = .int x) : Run 73 12 L [.int x] h = some (.inl (some (.int x)), h) := Rd (if_pos hx)
theorem e74_0 {L : Lo} {S : List Value} {h : Hp} {v : Nat} : Run 74 0 (some (.ref v) :: L) S h = Run 74 1 (some (.ref v) :: L) (.ref v :: S) h := Rg rfl
theorem e74_1 {L : Lo} {S : List Value} {h : Hp} {b : Nat} : Run 74 1 L (.ref b :: S) h = (gf h 7 12 b).bind fun v => Run 74 4 L (v :: S) h := Rb rfl fun _ => rfl
theorem e74_4 {L : Lo} {S : List Value} {h : Hp} : Run 74 4 L S h = Run 74 5 L (.int (-1) :: S) h := Rg rfl
theorem e74_5 {L : Lo} {S : List Value} {h : Hp} {x z : Int32} : Run 74 5 L (.int z :: .int x :: S) h = if x = z then Run 74 12 L S h else Run 74 8 L S h := Rbr (c := cnd .eq x z = true) (off := 7) rfl rfl cnd_eq
theorem e74_8 {L : Lo} {S : List Value} {h : Hp} : Run 74 8 L S h = Run 74 9 L (.int 1 :: S) h := Rg rfl
theorem e74_9 {L : Lo} {S : List Value} {h : Hp} : Run 74 9 L S h = Run 74 13 L S h := Rg rfl
theorem e74_12 {L : Lo} {S : List Value} {h : Hp} : Run 74 12 L S h = Run 74 13 L (.int 0 :: S) h := Rg rfl
theorem e74_13 {L : Lo} {h : Hp} {x : Int32} (hx : narrow .boolean (.int x) = .int x) : Run 74 13 L [.int x] h = some (.inl (some (.int x)), h) := Rd (if_pos hx)
theorem e75_0 {L : Lo} {S : List Value} {h : Hp} {v : Nat} : Run 75 0 (some (.ref v) :: L) S h = Run 75 1 (some (.ref v) :: L) (.ref v :: S) h := Rg rfl
set_option maxRecDepth 100000 in
theorem e75_1 {L : Lo} {h : Hp} {a0 : Nat} (hO : isO h a0 7 = true) : Run 75 1 L [.ref a0] h = (Run 73 0 [some (.ref a0)] [] h).bind fun o => aft 75 1 4 L [] o := Rcv (c := 73) (As := []) (S' := []) (pc' := 4) 7 rfl hO
theorem e75_4 {L : Lo} {S : List Value} {h : Hp} {x : Int32} : Run 75 4 L (.int x :: S) h = if x = 0 then Run 75 32 L S h else Run 75 7 L S h := Rbr (c := cnd .eq x 0 = true) (off := 28) rfl rfl cnd_eq
theorem e75_7 {L : Lo} {S : List Value} {h : Hp} {v : Nat} : Run 75 7 (some (.ref v) :: L) S h = Run 75 8 (some (.ref v) :: L) (.ref v :: S) h := Rg rfl
theorem e75_8 {L : Lo} {S : List Value} {h : Hp} {b : Nat} : Run 75 8 L (.ref b :: S) h = (gf h 7 4 b).bind fun v => Run 75 11 L (v :: S) h := Rb rfl fun _ => rfl
theorem e75_11 {L : Lo} {S : List Value} {h : Hp} {x : Int32} : Run 75 11 L (.int x :: S) h = if x ≤ 0 then Run 75 32 L S h else Run 75 14 L S h := Rbr (c := cnd .le x 0 = true) (off := 21) rfl rfl cnd_le
theorem e75_14 {L : Lo} {S : List Value} {h : Hp} {v : Nat} : Run 75 14 (some (.ref v) :: L) S h = Run 75 15 (some (.ref v) :: L) (.ref v :: S) h := Rg rfl
set_option maxRecDepth 100000 in
theorem e75_15 {L : Lo} {h : Hp} {a0 : Nat} (hO : isO h a0 7 = true) : Run 75 15 L [.ref a0] h = (Run 74 0 [some (.ref a0)] [] h).bind fun o => aft 75 15 18 L [] o := Rcv (c := 74) (As := []) (S' := []) (pc' := 18) 7 rfl hO
theorem e75_18 {L : Lo} {S : List Value} {h : Hp} {x : Int32} : Run 75 18 L (.int x :: S) h = if x = 0 then Run 75 21 L S h else Run 75 32 L S h := RbrN (c := cnd .ne x 0 = true) (off := 14) rfl rfl cnd_ne
theorem e75_21 {L : Lo} {S : List Value} {h : Hp} {v : Nat} : Run 75 21 (some (.ref v) :: L) S h = Run 75 22 (some (.ref v) :: L) (.ref v :: S) h := Rg rfl
theorem e75_22 {L : Lo} {S : List Value} {h : Hp} {b : Nat} : Run 75 22 L (.ref b :: S) h = (gf h 7 9 b).bind fun v => Run 75 25 L (v :: S) h := Rb rfl fun _ => rfl
theorem e75_25 {L : Lo} {S : List Value} {h : Hp} {x : Int32} : Run 75 25 L (.int x :: S) h = if x ≤ 0 then Run 75 32 L S h else Run 75 28 L S h := Rbr (c := cnd .le x 0 = true) (off := 7) rfl rfl cnd_le
theorem e75_28 {L : Lo} {S : List Value} {h : Hp} : Run 75 28 L S h = Run 75 29 L (.int 1 :: S) h := Rg rfl
theorem e75_29 {L : Lo} {S : List Value} {h : Hp} : Run 75 29 L S h = Run 75 33 L S h := Rg rfl
theorem e75_32 {L : Lo} {S : List Value} {h : Hp} : Run 75 32 L S h = Run 75 33 L (.int 0 :: S) h := Rg rfl
theorem e75_33 {L : Lo} {h : Hp} {x : Int32} (hx : narrow .boolean (.int x) = .int x) : Run 75 33 L [.int x] h = some (.inl (some (.int x)), h) := Rd (if_pos hx)
theorem e76_0 {L : Lo} {S : List Value} {h : Hp} {v : Nat} : Run 76 0 (some (.ref v) :: L) S h = Run 76 1 (some (.ref v) :: L) (.ref v :: S) h := Rg rfl
theorem e76_1 {L : Lo} {S : List Value} {h : Hp} {b : Nat} : Run 76 1 L (.ref b :: S) h = (gf h 7 2 b).bind fun v => Run 76 4 L (v :: S) h := Rb rfl fun _ => rfl
theorem e76_4 {L : Lo} {S : List Value} {h : Hp} {x0 : Option Value} {v : Int32} : Run 76 4 (x0 :: some (.int v) :: L) S h = Run 76 5 (x0 :: some (.int v) :: L) (.int v :: S) h := Rg rfl
theorem e76_5 {L : Lo} {S : List Value} {h : Hp} {x : Int32} : Run 76 5 L (.int x :: S) h = if x = 0 then Run 76 12 L S h else Run 76 8 L S h := Rbr (c := cnd .eq x 0 = true) (off := 7) rfl rfl cnd_eq
theorem e76_8 {L : Lo} {S : List Value} {h : Hp} : Run 76 8 L S h = Run 76 9 L (.int 1 :: S) h := Rg rfl
theorem e76_9 {L : Lo} {S : List Value} {h : Hp} : Run 76 9 L S h = Run 76 13 L S h := Rg rfl
theorem e76_12 {L : Lo} {S : List Value} {h : Hp} : Run 76 12 L S h = Run 76 13 L (.int (-1) :: S) h := Rg rfl
theorem e76_13 {L : Lo} {S : List Value} {h : Hp} {x z : Int32} : Run 76 13 L (.int z :: .int x :: S) h = Run 76 14 L (.int (x + z) :: S) h := Rg rfl
theorem e76_14 {L : Lo} {S : List Value} {h : Hp} : Run 76 14 L S h = Run 76 16 L (.int 6 :: S) h := Rg rfl
set_option maxRecDepth 100000 in
theorem e76_16 {L : Lo} {h : Hp} {a1 : Int32} {a0 : Int32} : Run 76 16 L [.int a1, .int a0] h = (Run 114 0 [some (.int a0), some (.int a1), none] [] h).bind fun o => aft 76 16 19 L [] o := Rc (c := 114) (As := [.int a0, .int a1]) (S' := []) (pc' := 19) rfl
theorem e76_19 {L : Lo} {h : Hp} {x : Int32} : Run 76 19 L [.int x] h = some (.inl (some (.int x)), h) := Rd (if_pos (c := narrow .int (.int x) = .int x) rfl)
theorem e77_0 {L : Lo} {S : List Value} {h : Hp} {v : Nat} : Run 77 0 (some (.ref v) :: L) S h = Run 77 1 (some (.ref v) :: L) (.ref v :: S) h := Rg rfl
theorem e77_1 {L : Lo} {S : List Value} {h : Hp} {v : Nat} : Run 77 1 (some (.ref v) :: L) S h = Run 77 2 (some (.ref v) :: L) (.ref v :: S) h := Rg rfl
theorem e77_2 {L : Lo} {S : List Value} {h : Hp} {x0 : Option Value} {v : Int32} : Run 77 2 (x0 :: some (.int v) :: L) S h = Run 77 3 (x0 :: some (.int v) :: L) (.int v :: S) h := Rg rfl
set_option maxRecDepth 100000 in
theorem e77_3 {L : Lo} {h : Hp} {a2 : Int32} {a1 : Nat} {a0 : Nat} (hO : isO h a1 7 = true) : Run 77 3 L [.int a2, .ref a1, .ref a0] h = (Run 76 0 [some (.ref a1), some (.int a2)] [] h).bind fun o => aft 77 3 6 L [.ref a0] o := Rcv (c := 76) (As := [.int a2]) (S' := [.ref a0]) (pc' := 6) 7 rfl hO
theorem e77_6 {L : Lo} {S : List Value} {h : Hp} {b : Nat} {v : Value} : Run 77 6 L (v :: .ref b :: S) h = (pf h 7 2 b v).bind fun h1 => Run 77 9 L S h1 := Rb rfl fun _ => rfl
theorem e77_9 {L : Lo} {S : List Value} {h : Hp} {v : Nat} : Run 77 9 (some (.ref v) :: L) S h = Run 77 10 (some (.ref v) :: L) (.ref v :: S) h := Rg rfl
theorem e77_10 {L : Lo} {S : List Value} {h : Hp} {v : Nat} : Run 77 10 L (.ref v :: S) h = Run 77 11 L (.ref v :: .ref v :: S) h := Rg rfl
theorem e77_11 {L : Lo} {S : List Value} {h : Hp} {b : Nat} : Run 77 11 L (.ref b :: S) h = (gf h 7 9 b).bind fun v => Run 77 14 L (v :: S) h := Rb rfl fun _ => rfl
theorem e77_14 {L : Lo} {S : List Value} {h : Hp} : Run 77 14 L S h = Run 77 15 L (.int 1 :: S) h := Rg rfl
theorem e77_15 {L : Lo} {S : List Value} {h : Hp} {x z : Int32} : Run 77 15 L (.int z :: .int x :: S) h = Run 77 16 L (.int (x - z) :: S) h := Rg rfl
theorem e77_16 {L : Lo} {S : List Value} {h : Hp} {b : Nat} {v : Value} : Run 77 16 L (v :: .ref b :: S) h = (pf h 7 9 b v).bind fun h1 => Run 77 19 L S h1 := Rb rfl fun _ => rfl
theorem e77_19 {L : Lo} {S : List Value} {h : Hp} {v : Nat} : Run 77 19 (some (.ref v) :: L) S h = Run 77 20 (some (.ref v) :: L) (.ref v :: S) h := Rg rfl
theorem e77_20 {L : Lo} {S : List Value} {h : Hp} : Run 77 20 L S h = Run 77 21 L (.int 0 :: S) h := Rg rfl
theorem e77_21 {L : Lo} {S : List Value} {h : Hp} {b : Nat} {v : Value} : Run 77 21 L (v :: .ref b :: S) h = (pf h 7 14 b v).bind fun h1 => Run 77 24 L S h1 := Rb rfl fun _ => rfl
theorem e77_24 {L : Lo} {h : Hp} : Run 77 24 L [] h = some (.inl none, h) := Rd rfl
theorem e78_0 {L : Lo} {S : List Value} {h : Hp} {x0 : Option Value} {v : Int32} : Run 78 0 (x0 :: some (.int v) :: L) S h = Run 78 1 (x0 :: some (.int v) :: L) (.int v :: S) h := Rg rfl
theorem e78_1 {L : Lo} {S : List Value} {h : Hp} {x : Int32} : Run 78 1 L (.int x :: S) h = if x = 0 then Run 78 11 L S h else Run 78 4 L S h := Rbr (c := cnd .eq x 0 = true) (off := 10) rfl rfl cnd_eq
theorem e78_4 {L : Lo} {S : List Value} {h : Hp} {v : Nat} : Run 78 4 (some (.ref v) :: L) S h = Run 78 5 (some (.ref v) :: L) (.ref v :: S) h := Rg rfl
theorem e78_5 {L : Lo} {S : List Value} {h : Hp} {b : Nat} : Run 78 5 L (.ref b :: S) h = (gf h 7 6 b).bind fun v => Run 78 8 L (v :: S) h := Rb rfl fun _ => rfl
theorem e78_8 {L : Lo} {S : List Value} {h : Hp} : Run 78 8 L S h = Run 78 15 L S h := Rg rfl
theorem e78_11 {L : Lo} {S : List Value} {h : Hp} {v : Nat} : Run 78 11 (some (.ref v) :: L) S h = Run 78 12 (some (.ref v) :: L) (.ref v :: S) h := Rg rfl
theorem e78_12 {L : Lo} {S : List Value} {h : Hp} {b : Nat} : Run 78 12 L (.ref b :: S) h = (gf h 7 5 b).bind fun v => Run 78 15 L (v :: S) h := Rb rfl fun _ => rfl
theorem e78_15 {L : Lo} {h : Hp} {x : Int32} : Run 78 15 L [.int x] h = some (.inl (some (.int x)), h) := Rd (if_pos (c := narrow .int (.int x) = .int x) rfl)
theorem e79_0 {L : Lo} {S : List Value} {h : Hp} {x0 : Option Value} {v : Int32} : Run 79 0 (x0 :: some (.int v) :: L) S h = Run 79 1 (x0 :: some (.int v) :: L) (.int v :: S) h := Rg rfl
theorem e79_1 {L : Lo} {S : List Value} {h : Hp} {x : Int32} : Run 79 1 L (.int x :: S) h = if x = 0 then Run 79 11 L S h else Run 79 4 L S h := Rbr (c := cnd .eq x 0 = true) (off := 10) rfl rfl cnd_eq
theorem e79_4 {L : Lo} {S : List Value} {h : Hp} {v : Nat} : Run 79 4 (some (.ref v) :: L) S h = Run 79 5 (some (.ref v) :: L) (.ref v :: S) h := Rg rfl
theorem e79_5 {L : Lo} {S : List Value} {h : Hp} {b : Nat} : Run 79 5 L (.ref b :: S) h = (gf h 7 11 b).bind fun v => Run 79 8 L (v :: S) h := Rb rfl fun _ => rfl
theorem e79_8 {L : Lo} {S : List Value} {h : Hp} : Run 79 8 L S h = Run 79 15 L S h := Rg rfl
theorem e79_11 {L : Lo} {S : List Value} {h : Hp} {v : Nat} : Run 79 11 (some (.ref v) :: L) S h = Run 79 12 (some (.ref v) :: L) (.ref v :: S) h := Rg rfl
theorem e79_12 {L : Lo} {S : List Value} {h : Hp} {b : Nat} : Run 79 12 L (.ref b :: S) h = (gf h 7 10 b).bind fun v => Run 79 15 L (v :: S) h := Rb rfl fun _ => rfl
theorem e79_15 {L : Lo} {h : Hp} {x : Int32} : Run 79 15 L [.int x] h = some (.inl (some (.int x)), h) := Rd (if_pos (c := narrow .int (.int x) = .int x) rfl)
theorem e80_0 {L : Lo} {S : List Value} {h : Hp} : Run 80 0 L S h = Run 80 1 L (.int 2 :: S) h := Rg rfl
theorem e80_1 {L : Lo} {S : List Value} {h : Hp} {v : Nat} : Run 80 1 (some (.ref v) :: L) S h = Run 80 2 (some (.ref v) :: L) (.ref v :: S) h := Rg rfl
theorem e80_2 {L : Lo} {S : List Value} {h : Hp} {b : Nat} : Run 80 2 L (.ref b :: S) h = (gf h 7 7 b).bind fun v => Run 80 5 L (v :: S) h := Rb rfl fun _ => rfl
theorem e80_5 {L : Lo} {S : List Value} {h : Hp} {x z : Int32} : Run 80 5 L (.int z :: .int x :: S) h = Run 80 6 L (.int (x * z) :: S) h := Rg rfl
theorem e80_6 {L : Lo} {S : List Value} {h : Hp} {v : Nat} : Run 80 6 (some (.ref v) :: L) S h = Run 80 7 (some (.ref v) :: L) (.ref v :: S) h := Rg rfl
theorem e80_7 {L : Lo} {S : List Value} {h : Hp} {b : Nat} : Run 80 7 L (.ref b :: S) h = (gf h 7 8 b).bind fun v => Run 80 10 L (v :: S) h := Rb rfl fun _ => rfl
theorem e80_10 {L : Lo} {S : List Value} {h : Hp} {x z : Int32} : Run 80 10 L (.int z :: .int x :: S) h = if x < z then Run 80 17 L S h else Run 80 13 L S h := Rbr (c := cnd .lt x z = true) (off := 7) rfl rfl cnd_lt
theorem e80_13 {L : Lo} {S : List Value} {h : Hp} : Run 80 13 L S h = Run 80 14 L (.int 1 :: S) h := Rg rfl
theorem e80_14 {L : Lo} {S : List Value} {h : Hp} : Run 80 14 L S h = Run 80 18 L S h := Rg rfl
theorem e80_17 {L : Lo} {S : List Value} {h : Hp} : Run 80 17 L S h = Run 80 18 L (.int 2 :: S) h := Rg rfl
theorem e80_18 {L : Lo} {S : List Value} {h : Hp} {x0 x1 : Option Value} {y : Option Value} {v : Int32} : Run 80 18 (x0 :: x1 :: y :: L) (.int v :: S) h = Run 80 19 (x0 :: ck x1 :: some (.int v) :: L) S h := Rg rfl
theorem e80_19 {L : Lo} {S : List Value} {h : Hp} {x0 : Option Value} {v : Int32} : Run 80 19 (x0 :: some (.int v) :: L) S h = Run 80 20 (x0 :: some (.int v) :: L) (.int v :: S) h := Rg rfl
theorem e80_20 {L : Lo} {S : List Value} {h : Hp} {x : Int32} : Run 80 20 L (.int x :: S) h = if x = 0 then Run 80 31 L S h else Run 80 23 L S h := Rbr (c := cnd .eq x 0 = true) (off := 11) rfl rfl cnd_eq
theorem e80_23 {L : Lo} {S : List Value} {h : Hp} {v : Nat} : Run 80 23 (some (.ref v) :: L) S h = Run 80 24 (some (.ref v) :: L) (.ref v :: S) h := Rg rfl
theorem e80_24 {L : Lo} {S : List Value} {h : Hp} {x0 x1 : Option Value} {v : Int32} : Run 80 24 (x0 :: x1 :: some (.int v) :: L) S h = Run 80 25 (x0 :: x1 :: some (.int v) :: L) (.int v :: S) h := Rg rfl
theorem e80_25 {L : Lo} {S : List Value} {h : Hp} {b : Nat} {v : Value} : Run 80 25 L (v :: .ref b :: S) h = (pf h 7 11 b v).bind fun h1 => Run 80 28 L S h1 := Rb rfl fun _ => rfl
theorem e80_28 {L : Lo} {S : List Value} {h : Hp} : Run 80 28 L S h = Run 80 36 L S h := Rg rfl
theorem e80_31 {L : Lo} {S : List Value} {h : Hp} {v : Nat} : Run 80 31 (some (.ref v) :: L) S h = Run 80 32 (some (.ref v) :: L) (.ref v :: S) h := Rg rfl
theorem e80_32 {L : Lo} {S : List Value} {h : Hp} {x0 x1 : Option Value} {v : Int32} : Run 80 32 (x0 :: x1 :: some (.int v) :: L) S h = Run 80 33 (x0 :: x1 :: some (.int v) :: L) (.int v :: S) h := Rg rfl
theorem e80_33 {L : Lo} {S : List Value} {h : Hp} {b : Nat} {v : Value} : Run 80 33 L (v :: .ref b :: S) h = (pf h 7 10 b v).bind fun h1 => Run 80 36 L S h1 := Rb rfl fun _ => rfl
theorem e80_36 {L : Lo} {h : Hp} : Run 80 36 L [] h = some (.inl none, h) := Rd rfl
theorem e81_0 {L : Lo} {S : List Value} {h : Hp} {v : Nat} : Run 81 0 (some (.ref v) :: L) S h = Run 81 1 (some (.ref v) :: L) (.ref v :: S) h := Rg rfl
theorem e81_1 {L : Lo} {S : List Value} {h : Hp} : Run 81 1 L S h = Run 81 2 L (.int 0 :: S) h := Rg rfl
theorem e81_2 {L : Lo} {S : List Value} {h : Hp} {v : Nat} : Run 81 2 (some (.ref v) :: L) S h = Run 81 3 (some (.ref v) :: L) (.ref v :: S) h := Rg rfl
theorem e81_3 {L : Lo} {S : List Value} {h : Hp} {b : Nat} : Run 81 3 L (.ref b :: S) h = (gf h 7 10 b).bind fun v => Run 81 6 L (v :: S) h := Rb rfl fun _ => rfl
theorem e81_6 {L : Lo} {S : List Value} {h : Hp} : Run 81 6 L S h = Run 81 7 L (.int 1 :: S) h := Rg rfl
theorem e81_7 {L : Lo} {S : List Value} {h : Hp} {x z : Int32} : Run 81 7 L (.int z :: .int x :: S) h = Run 81 8 L (.int (x - z) :: S) h := Rg rfl
set_option maxRecDepth 100000 in
theorem e81_8 {L : Lo} {h : Hp} {a2 : Int32} {a1 : Int32} {a0 : Nat} : Run 81 8 L [.int a2, .int a1, .ref a0] h = (Run 116 0 [some (.int a1), some (.int a2)] [] h).bind fun o => aft 81 8 11 L [.ref a0] o := Rc (c := 116) (As := [.int a1, .int a2]) (S' := [.ref a0]) (pc' := 11) rfl
theorem e81_11 {L : Lo} {S : List Value} {h : Hp} {b : Nat} {v : Value} : Run 81 11 L (v :: .ref b :: S) h = (pf h 7 10 b v).bind fun h1 => Run 81 14 L S h1 := Rb rfl fun _ => rfl
theorem e81_14 {L : Lo} {S : List Value} {h : Hp} {v : Nat} : Run 81 14 (some (.ref v) :: L) S h = Run 81 15 (some (.ref v) :: L) (.ref v :: S) h := Rg rfl
theorem e81_15 {L : Lo} {S : List Value} {h : Hp} : Run 81 15 L S h = Run 81 16 L (.int 0 :: S) h := Rg rfl
theorem e81_16 {L : Lo} {S : List Value} {h : Hp} {v : Nat} : Run 81 16 (some (.ref v) :: L) S h = Run 81 17 (some (.ref v) :: L) (.ref v :: S) h := Rg rfl
theorem e81_17 {L : Lo} {S : List Value} {h : Hp} {b : Nat} : Run 81 17 L (.ref b :: S) h = (gf h 7 11 b).bind fun v => Run 81 20 L (v :: S) h := Rb rfl fun _ => rfl
theorem e81_20 {L : Lo} {S : List Value} {h : Hp} : Run 81 20 L S h = Run 81 21 L (.int 1 :: S) h := Rg rfl
theorem e81_21 {L : Lo} {S : List Value} {h : Hp} {x z : Int32} : Run 81 21 L (.int z :: .int x :: S) h = Run 81 22 L (.int (x - z) :: S) h := Rg rfl
set_option maxRecDepth 100000 in
theorem e81_22 {L : Lo} {h : Hp} {a2 : Int32} {a1 : Int32} {a0 : Nat} : Run 81 22 L [.int a2, .int a1, .ref a0] h = (Run 116 0 [some (.int a1), some (.int a2)] [] h).bind fun o => aft 81 22 25 L [.ref a0] o := Rc (c := 116) (As := [.int a1, .int a2]) (S' := [.ref a0]) (pc' := 25) rfl
theorem e81_25 {L : Lo} {S : List Value} {h : Hp} {b : Nat} {v : Value} : Run 81 25 L (v :: .ref b :: S) h = (pf h 7 11 b v).bind fun h1 => Run 81 28 L S h1 := Rb rfl fun _ => rfl
theorem e81_28 {L : Lo} {h : Hp} : Run 81 28 L [] h = some (.inl none, h) := Rd rfl
theorem e82_0 {L : Lo} {S : List Value} {h : Hp} {v : Nat} : Run 82 0 (some (.ref v) :: L) S h = Run 82 1 (some (.ref v) :: L) (.ref v :: S) h := Rg rfl
theorem e82_1 {L : Lo} {h : Hp} {a0 : Nat} : Run 82 1 L [.ref a0] h = Run 82 4 L [] h := Rg rfl
theorem e82_4 {L : Lo} {S : List Value} {h : Hp} : Run 82 4 L S h = Run 82 7 L (.ref h.1 :: S) (hnew h (blankO 6) 8) := Rg rfl
theorem e82_7 {L : Lo} {S : List Value} {h : Hp} {v : Nat} : Run 82 7 L (.ref v :: S) h = Run 82 8 L (.ref v :: .ref v :: S) h := Rg rfl
set_option maxRecDepth 100000 in
theorem e82_8 {L : Lo} {h : Hp} {a1 : Nat} {a0 : Nat} : Run 82 8 L [.ref a1, .ref a0] h = (Run 40 0 [some (.ref a1), none] [] h).bind fun o => aft 82 8 11 L [.ref a0] o := Rc (c := 40) (As := [.ref a1]) (S' := [.ref a0]) (pc' := 11) rfl
theorem e82_11 {L : Lo} {S : List Value} {h : Hp} {x0 : Option Value} {y : Option Value} {v : Nat} : Run 82 11 (x0 :: y :: L) (.ref v :: S) h = Run 82 12 (ck x0 :: some (.ref v) :: L) S h := Rg rfl
theorem e82_12 {L : Lo} {S : List Value} {h : Hp} {v : Nat} : Run 82 12 (some (.ref v) :: L) S h = Run 82 13 (some (.ref v) :: L) (.ref v :: S) h := Rg rfl
theorem e82_13 {L : Lo} {S : List Value} {h : Hp} {x0 : Option Value} {v : Nat} : Run 82 13 (x0 :: some (.ref v) :: L) S h = Run 82 14 (x0 :: some (.ref v) :: L) (.ref v :: S) h := Rg rfl
theorem e82_14 {L : Lo} {S : List Value} {h : Hp} {b : Nat} {v : Value} : Run 82 14 L (v :: .ref b :: S) h = (pf h 8 0 b v).bind fun h1 => Run 82 17 L S h1 := Rb rfl fun _ => rfl
theorem e82_17 {L : Lo} {S : List Value} {h : Hp} {v : Nat} : Run 82 17 (some (.ref v) :: L) S h = Run 82 18 (some (.ref v) :: L) (.ref v :: S) h := Rg rfl
theorem e82_18 {L : Lo} {S : List Value} {h : Hp} : Run 82 18 L S h = Run 82 21 L (.ref h.1 :: S) (hnew h (blankO 4) 2) := Rg rfl
theorem e82_21 {L : Lo} {S : List Value} {h : Hp} {v : Nat} : Run 82 21 L (.ref v :: S) h = Run 82 22 L (.ref v :: .ref v :: S) h := Rg rfl
set_option maxRecDepth 100000 in
theorem e82_22 {L : Lo} {h : Hp} {a2 : Nat} {a1 : Nat} {a0 : Nat} : Run 82 22 L [.ref a2, .ref a1, .ref a0] h = (Run 29 0 [some (.ref a2), none] [] h).bind fun o => aft 82 22 25 L [.ref a1, .ref a0] o := Rc (c := 29) (As := [.ref a2]) (S' := [.ref a1, .ref a0]) (pc' := 25) rfl
theorem e82_25 {L : Lo} {S : List Value} {h : Hp} {b : Nat} {v : Value} : Run 82 25 L (v :: .ref b :: S) h = (pf h 8 1 b v).bind fun h1 => Run 82 28 L S h1 := Rb rfl fun _ => rfl
theorem e82_28 {L : Lo} {S : List Value} {h : Hp} {v : Nat} : Run 82 28 (some (.ref v) :: L) S h = Run 82 29 (some (.ref v) :: L) (.ref v :: S) h := Rg rfl
theorem e82_29 {L : Lo} {S : List Value} {h : Hp} : Run 82 29 L S h = Run 82 32 L (.ref h.1 :: S) (hnew h (blankO 3) 1) := Rg rfl
theorem e82_32 {L : Lo} {S : List Value} {h : Hp} {v : Nat} : Run 82 32 L (.ref v :: S) h = Run 82 33 L (.ref v :: .ref v :: S) h := Rg rfl
theorem e82_33 {L : Lo} {S : List Value} {h : Hp} {x0 : Option Value} {v : Nat} : Run 82 33 (x0 :: some (.ref v) :: L) S h = Run 82 34 (x0 :: some (.ref v) :: L) (.ref v :: S) h := Rg rfl
set_option maxRecDepth 100000 in
theorem e82_34 {L : Lo} {h : Hp} {a3 : Nat} {a2 : Nat} {a1 : Nat} {a0 : Nat} : Run 82 34 L [.ref a3, .ref a2, .ref a1, .ref a0] h = (Run 19 0 [some (.ref a2), some (.ref a3)] [] h).bind fun o => aft 82 34 37 L [.ref a1, .ref a0] o := Rc (c := 19) (As := [.ref a2, .ref a3]) (S' := [.ref a1, .ref a0]) (pc' := 37) rfl
theorem e82_37 {L : Lo} {S : List Value} {h : Hp} {b : Nat} {v : Value} : Run 82 37 L (v :: .ref b :: S) h = (pf h 8 2 b v).bind fun h1 => Run 82 40 L S h1 := Rb rfl fun _ => rfl
theorem e82_40 {L : Lo} {S : List Value} {h : Hp} {v : Nat} : Run 82 40 (some (.ref v) :: L) S h = Run 82 41 (some (.ref v) :: L) (.ref v :: S) h := Rg rfl
theorem e82_41 {L : Lo} {S : List Value} {h : Hp} : Run 82 41 L S h = Run 82 44 L (.ref h.1 :: S) (hnew h (blankO 2) 1) := Rg rfl
theorem e82_44 {L : Lo} {S : List Value} {h : Hp} {v : Nat} : Run 82 44 L (.ref v :: S) h = Run 82 45 L (.ref v :: .ref v :: S) h := Rg rfl
theorem e82_45 {L : Lo} {S : List Value} {h : Hp} {x0 : Option Value} {v : Nat} : Run 82 45 (x0 :: some (.ref v) :: L) S h = Run 82 46 (x0 :: some (.ref v) :: L) (.ref v :: S) h := Rg rfl
set_option maxRecDepth 100000 in
theorem e82_46 {L : Lo} {h : Hp} {a3 : Nat} {a2 : Nat} {a1 : Nat} {a0 : Nat} : Run 82 46 L [.ref a3, .ref a2, .ref a1, .ref a0] h = (Run 10 0 [some (.ref a2), some (.ref a3)] [] h).bind fun o => aft 82 46 49 L [.ref a1, .ref a0] o := Rc (c := 10) (As := [.ref a2, .ref a3]) (S' := [.ref a1, .ref a0]) (pc' := 49) rfl
theorem e82_49 {L : Lo} {S : List Value} {h : Hp} {b : Nat} {v : Value} : Run 82 49 L (v :: .ref b :: S) h = (pf h 8 3 b v).bind fun h1 => Run 82 52 L S h1 := Rb rfl fun _ => rfl
theorem e82_52 {L : Lo} {S : List Value} {h : Hp} {v : Nat} : Run 82 52 (some (.ref v) :: L) S h = Run 82 53 (some (.ref v) :: L) (.ref v :: S) h := Rg rfl
theorem e82_53 {L : Lo} {S : List Value} {h : Hp} : Run 82 53 L S h = Run 82 56 L (.ref h.1 :: S) (hnew h (blankO 1) 1) := Rg rfl
theorem e82_56 {L : Lo} {S : List Value} {h : Hp} {v : Nat} : Run 82 56 L (.ref v :: S) h = Run 82 57 L (.ref v :: .ref v :: S) h := Rg rfl
theorem e82_57 {L : Lo} {S : List Value} {h : Hp} {x0 : Option Value} {v : Nat} : Run 82 57 (x0 :: some (.ref v) :: L) S h = Run 82 58 (x0 :: some (.ref v) :: L) (.ref v :: S) h := Rg rfl
set_option maxRecDepth 100000 in
theorem e82_58 {L : Lo} {h : Hp} {a3 : Nat} {a2 : Nat} {a1 : Nat} {a0 : Nat} : Run 82 58 L [.ref a3, .ref a2, .ref a1, .ref a0] h = (Run 6 0 [some (.ref a2), some (.ref a3)] [] h).bind fun o => aft 82 58 61 L [.ref a1, .ref a0] o := Rc (c := 6) (As := [.ref a2, .ref a3]) (S' := [.ref a1, .ref a0]) (pc' := 61) rfl
theorem e82_61 {L : Lo} {S : List Value} {h : Hp} {b : Nat} {v : Value} : Run 82 61 L (v :: .ref b :: S) h = (pf h 8 4 b v).bind fun h1 => Run 82 64 L S h1 := Rb rfl fun _ => rfl
theorem e82_64 {L : Lo} {S : List Value} {h : Hp} {v : Nat} : Run 82 64 (some (.ref v) :: L) S h = Run 82 65 (some (.ref v) :: L) (.ref v :: S) h := Rg rfl
theorem e82_65 {L : Lo} {S : List Value} {h : Hp} : Run 82 65 L S h = Run 82 68 L (.ref h.1 :: S) (hnew h (blankO 0) 6) := Rg rfl
theorem e82_68 {L : Lo} {S : List Value} {h : Hp} {v : Nat} : Run 82 68 L (.ref v :: S) h = Run 82 69 L (.ref v :: .ref v :: S) h := Rg rfl
theorem e82_69 {L : Lo} {S : List Value} {h : Hp} {x0 : Option Value} {v : Nat} : Run 82 69 (x0 :: some (.ref v) :: L) S h = Run 82 70 (x0 :: some (.ref v) :: L) (.ref v :: S) h := Rg rfl
set_option maxRecDepth 100000 in
theorem e82_70 {L : Lo} {h : Hp} {a3 : Nat} {a2 : Nat} {a1 : Nat} {a0 : Nat} : Run 82 70 L [.ref a3, .ref a2, .ref a1, .ref a0] h = (Run 0 0 [some (.ref a2), some (.ref a3)] [] h).bind fun o => aft 82 70 73 L [.ref a1, .ref a0] o := Rc (c := 0) (As := [.ref a2, .ref a3]) (S' := [.ref a1, .ref a0]) (pc' := 73) rfl
theorem e82_73 {L : Lo} {S : List Value} {h : Hp} {b : Nat} {v : Value} : Run 82 73 L (v :: .ref b :: S) h = (pf h 8 5 b v).bind fun h1 => Run 82 76 L S h1 := Rb rfl fun _ => rfl
theorem e82_76 {L : Lo} {S : List Value} {h : Hp} {v : Nat} : Run 82 76 (some (.ref v) :: L) S h = Run 82 77 (some (.ref v) :: L) (.ref v :: S) h := Rg rfl
theorem e82_77 {L : Lo} {S : List Value} {h : Hp} : Run 82 77 L S h = Run 82 80 L (.ref h.1 :: S) (hnew h (blankO 5) 2) := Rg rfl
theorem e82_80 {L : Lo} {S : List Value} {h : Hp} {v : Nat} : Run 82 80 L (.ref v :: S) h = Run 82 81 L (.ref v :: .ref v :: S) h := Rg rfl
set_option maxRecDepth 100000 in
theorem e82_81 {L : Lo} {h : Hp} {a2 : Nat} {a1 : Nat} {a0 : Nat} : Run 82 81 L [.ref a2, .ref a1, .ref a0] h = (Run 33 0 [some (.ref a2)] [] h).bind fun o => aft 82 81 84 L [.ref a1, .ref a0] o := Rc (c := 33) (As := [.ref a2]) (S' := [.ref a1, .ref a0]) (pc' := 84) rfl
theorem e82_84 {L : Lo} {S : List Value} {h : Hp} {b : Nat} {v : Value} : Run 82 84 L (v :: .ref b :: S) h = (pf h 8 6 b v).bind fun h1 => Run 82 87 L S h1 := Rb rfl fun _ => rfl
theorem e82_87 {L : Lo} {h : Hp} : Run 82 87 L [] h = some (.inl none, h) := Rd rfl
theorem e83_0 {L : Lo} {S : List Value} {h : Hp} {x0 : Option Value} {v : Int32} : Run 83 0 (x0 :: some (.int v) :: L) S h = Run 83 1 (x0 :: some (.int v) :: L) (.int v :: S) h := Rg rfl
theorem e83_1 {L : Lo} {S : List Value} {h : Hp} : Run 83 1 L S h = Run 83 2 L (.int 4 :: S) h := Rg rfl
theorem e83_2 {L : Lo} {S : List Value} {h : Hp} {x z : Int32} : Run 83 2 L (.int z :: .int x :: S) h = if x < z then Run 83 22 L S h else Run 83 5 L S h := Rbr (c := cnd .lt x z = true) (off := 20) rfl rfl cnd_lt
theorem e83_5 {L : Lo} {S : List Value} {h : Hp} {x0 : Option Value} {v : Int32} : Run 83 5 (x0 :: some (.int v) :: L) S h = Run 83 6 (x0 :: some (.int v) :: L) (.int v :: S) h := Rg rfl
theorem e83_6 {L : Lo} {S : List Value} {h : Hp} : Run 83 6 L S h = Run 83 8 L (.int 12 :: S) h := Rg rfl
theorem e83_8 {L : Lo} {S : List Value} {h : Hp} {x z : Int32} : Run 83 8 L (.int z :: .int x :: S) h = if z < x then Run 83 22 L S h else Run 83 11 L S h := Rbr (c := cnd .gt x z = true) (off := 14) rfl rfl cnd_gt
theorem e83_11 {L : Lo} {S : List Value} {h : Hp} {x0 x1 : Option Value} {v : Int32} : Run 83 11 (x0 :: x1 :: some (.int v) :: L) S h = Run 83 12 (x0 :: x1 :: some (.int v) :: L) (.int v :: S) h := Rg rfl
theorem e83_12 {L : Lo} {S : List Value} {h : Hp} : Run 83 12 L S h = Run 83 13 L (.int 4 :: S) h := Rg rfl
theorem e83_13 {L : Lo} {S : List Value} {h : Hp} {x z : Int32} : Run 83 13 L (.int z :: .int x :: S) h = if x < z then Run 83 22 L S h else Run 83 16 L S h := Rbr (c := cnd .lt x z = true) (off := 9) rfl rfl cnd_lt
theorem e83_16 {L : Lo} {S : List Value} {h : Hp} {x0 x1 : Option Value} {v : Int32} : Run 83 16 (x0 :: x1 :: some (.int v) :: L) S h = Run 83 17 (x0 :: x1 :: some (.int v) :: L) (.int v :: S) h := Rg rfl
theorem e83_17 {L : Lo} {S : List Value} {h : Hp} : Run 83 17 L S h = Run 83 19 L (.int 12 :: S) h := Rg rfl
theorem e83_19 {L : Lo} {S : List Value} {h : Hp} {x z : Int32} : Run 83 19 L (.int z :: .int x :: S) h = if x ≤ z then Run 83 32 L S h else Run 83 22 L S h := Rbr (c := cnd .le x z = true) (off := 13) rfl rfl cnd_le
theorem e83_22 {L : Lo} {h : Hp} : Run 83 22 L [] h = some (.inr "java/lang/IllegalArgumentException", hbump h) := Rd rfl
theorem e83_32 {L : Lo} {S : List Value} {h : Hp} {v : Nat} : Run 83 32 (some (.ref v) :: L) S h = Run 83 33 (some (.ref v) :: L) (.ref v :: S) h := Rg rfl
theorem e83_33 {L : Lo} {S : List Value} {h : Hp} {b : Nat} : Run 83 33 L (.ref b :: S) h = (gf h 8 0 b).bind fun v => Run 83 36 L (v :: S) h := Rb rfl fun _ => rfl
theorem e83_36 {L : Lo} {S : List Value} {h : Hp} {b : Nat} : Run 83 36 L (.ref b :: S) h = (gf h 6 5 b).bind fun v => Run 83 39 L (v :: S) h := Rb rfl fun _ => rfl
theorem e83_39 {L : Lo} {S : List Value} {h : Hp} {x0 x1 x2 : Option Value} {y : Option Value} {v : Int32} : Run 83 39 (x0 :: x1 :: x2 :: y :: L) (.int v :: S) h = Run 83 40 (x0 :: x1 :: ck x2 :: some (.int v) :: L) S h := Rg rfl
theorem e83_40 {L : Lo} {S : List Value} {h : Hp} {v : Nat} : Run 83 40 (some (.ref v) :: L) S h = Run 83 41 (some (.ref v) :: L) (.ref v :: S) h := Rg rfl
theorem e83_41 {L : Lo} {S : List Value} {h : Hp} {b : Nat} : Run 83 41 L (.ref b :: S) h = (gf h 8 1 b).bind fun v => Run 83 44 L (v :: S) h := Rb rfl fun _ => rfl
theorem e83_44 {L : Lo} {S : List Value} {h : Hp} {v : Nat} : Run 83 44 (some (.ref v) :: L) S h = Run 83 45 (some (.ref v) :: L) (.ref v :: S) h := Rg rfl
theorem e83_45 {L : Lo} {S : List Value} {h : Hp} {b : Nat} : Run 83 45 L (.ref b :: S) h = (gf h 8 0 b).bind fun v => Run 83 48 L (v :: S) h := Rb rfl fun _ => rfl
set_option maxRecDepth 100000 in
theorem e83_48 {L : Lo} {h : Hp} {a1 : Nat} {a0 : Nat} (hO : isO h a0 4 = true) : Run 83 48 L [.ref a1, .ref a0] h = (Run 30 0 [some (.ref a0), some (.ref a1)] [] h).bind fun o => aft 83 48 51 L [] o := Rcv (c := 30) (As := [.ref a1]) (S' := []) (pc' := 51) 4 rfl hO
theorem e83_51 {L : Lo} {S : List Value} {h : Hp} {v : Nat} : Run 83 51 (some (.ref v) :: L) S h = Run 83 52 (some (.ref v) :: L) (.ref v :: S) h := Rg rfl
theorem e83_52 {L : Lo} {S : List Value} {h : Hp} {b : Nat} : Run 83 52 L (.ref b :: S) h = (gf h 8 0 b).bind fun v => Run 83 55 L (v :: S) h := Rb rfl fun _ => rfl
theorem e83_55 {L : Lo} {S : List Value} {h : Hp} {x0 : Option Value} {v : Int32} : Run 83 55 (x0 :: some (.int v) :: L) S h = Run 83 56 (x0 :: some (.int v) :: L) (.int v :: S) h := Rg rfl
theorem e83_56 {L : Lo} {S : List Value} {h : Hp} {x0 x1 : Option Value} {v : Int32} : Run 83 56 (x0 :: x1 :: some (.int v) :: L) S h = Run 83 57 (x0 :: x1 :: some (.int v) :: L) (.int v :: S) h := Rg rfl
set_option maxRecDepth 100000 in
theorem e83_57 {L : Lo} {h : Hp} {a2 : Int32} {a1 : Int32} {a0 : Nat} (hO : isO h a0 6 = true) : Run 83 57 L [.int a2, .int a1, .ref a0] h = (Run 41 0 [some (.ref a0), some (.int a1), some (.int a2)] [] h).bind fun o => aft 83 57 60 L [] o := Rcv (c := 41) (As := [.int a1, .int a2]) (S' := []) (pc' := 60) 6 rfl hO
theorem e83_60 {L : Lo} {S : List Value} {h : Hp} {x0 x1 x2 : Option Value} {v : Int32} : Run 83 60 (x0 :: x1 :: x2 :: some (.int v) :: L) S h = Run 83 61 (x0 :: x1 :: x2 :: some (.int v) :: L) (.int v :: S) h := Rg rfl
theorem e83_61 {L : Lo} {h : Hp} {x : Int32} : Run 83 61 L [.int x] h = some (.inl (some (.int x)), h) := Rd (if_pos (c := narrow .int (.int x) = .int x) rfl)
theorem e84_0 {L : Lo} {S : List Value} {h : Hp} {v : Nat} : Run 84 0 (some (.ref v) :: L) S h = Run 84 1 (some (.ref v) :: L) (.ref v :: S) h := Rg rfl
theorem e84_1 {L : Lo} {S : List Value} {h : Hp} {x0 : Option Value} {v : Int32} : Run 84 1 (x0 :: some (.int v) :: L) S h = Run 84 2 (x0 :: some (.int v) :: L) (.int v :: S) h := Rg rfl
set_option maxRecDepth 100000 in
theorem e84_2 {L : Lo} {h : Hp} {a1 : Int32} {a0 : Nat} (hO : isO h a0 8 = true) : Run 84 2 L [.int a1, .ref a0] h = (Run 109 0 [some (.ref a0), some (.int a1)] [] h).bind fun o => aft 84 2 5 L [] o := Rcv (c := 109) (As := [.int a1]) (S' := []) (pc' := 5) 8 rfl hO
theorem e84_5 {L : Lo} {S : List Value} {h : Hp} {v : Nat} : Run 84 5 (some (.ref v) :: L) S h = Run 84 6 (some (.ref v) :: L) (.ref v :: S) h := Rg rfl
theorem e84_6 {L : Lo} {S : List Value} {h : Hp} {b : Nat} : Run 84 6 L (.ref b :: S) h = (gf h 8 0 b).bind fun v => Run 84 9 L (v :: S) h := Rb rfl fun _ => rfl
theorem e84_9 {L : Lo} {S : List Value} {h : Hp} {x0 : Option Value} {v : Int32} : Run 84 9 (x0 :: some (.int v) :: L) S h = Run 84 10 (x0 :: some (.int v) :: L) (.int v :: S) h := Rg rfl
set_option maxRecDepth 100000 in
theorem e84_10 {L : Lo} {h : Hp} {a1 : Int32} {a0 : Nat} (hO : isO h a0 6 = true) : Run 84 10 L [.int a1, .ref a0] h = (Run 50 0 [some (.ref a0), some (.int a1), none] [] h).bind fun o => aft 84 10 13 L [] o := Rcv (c := 50) (As := [.int a1]) (S' := []) (pc' := 13) 6 rfl hO
theorem e84_13 {L : Lo} {S : List Value} {h : Hp} : Run 84 13 L S h = Run 84 14 L (.int (-1) :: S) h := Rg rfl
theorem e84_14 {L : Lo} {S : List Value} {h : Hp} {x z : Int32} : Run 84 14 L (.int z :: .int x :: S) h = if x = z then Run 84 27 L S h else Run 84 17 L S h := Rbr (c := cnd .eq x z = true) (off := 13) rfl rfl cnd_eq
theorem e84_17 {L : Lo} {h : Hp} : Run 84 17 L [] h = some (.inr "java/lang/IllegalStateException", hbump h) := Rd rfl
theorem e84_27 {L : Lo} {S : List Value} {h : Hp} {v : Nat} : Run 84 27 (some (.ref v) :: L) S h = Run 84 28 (some (.ref v) :: L) (.ref v :: S) h := Rg rfl
theorem e84_28 {L : Lo} {S : List Value} {h : Hp} {b : Nat} : Run 84 28 L (.ref b :: S) h = (gf h 8 0 b).bind fun v => Run 84 31 L (v :: S) h := Rb rfl fun _ => rfl
theorem e84_31 {L : Lo} {S : List Value} {h : Hp} {x0 : Option Value} {v : Int32} : Run 84 31 (x0 :: some (.int v) :: L) S h = Run 84 32 (x0 :: some (.int v) :: L) (.int v :: S) h := Rg rfl
set_option maxRecDepth 100000 in
theorem e84_32 {L : Lo} {h : Hp} {a1 : Int32} {a0 : Nat} (hO : isO h a0 6 = true) : Run 84 32 L [.int a1, .ref a0] h = (Run 48 0 [some (.ref a0), some (.int a1)] [] h).bind fun o => aft 84 32 35 L [] o := Rcv (c := 48) (As := [.int a1]) (S' := []) (pc' := 35) 6 rfl hO
theorem e84_35 {L : Lo} {S : List Value} {h : Hp} {x0 x1 x2 : Option Value} {y : Option Value} {v : Int32} : Run 84 35 (x0 :: x1 :: x2 :: y :: L) (.int v :: S) h = Run 84 36 (x0 :: x1 :: ck x2 :: some (.int v) :: L) S h := Rg rfl
theorem e84_36 {L : Lo} {S : List Value} {h : Hp} {v : Nat} : Run 84 36 (some (.ref v) :: L) S h = Run 84 37 (some (.ref v) :: L) (.ref v :: S) h := Rg rfl
theorem e84_37 {L : Lo} {S : List Value} {h : Hp} {b : Nat} : Run 84 37 L (.ref b :: S) h = (gf h 8 1 b).bind fun v => Run 84 40 L (v :: S) h := Rb rfl fun _ => rfl
theorem e84_40 {L : Lo} {S : List Value} {h : Hp} {v : Nat} : Run 84 40 (some (.ref v) :: L) S h = Run 84 41 (some (.ref v) :: L) (.ref v :: S) h := Rg rfl
theorem e84_41 {L : Lo} {S : List Value} {h : Hp} {b : Nat} : Run 84 41 L (.ref b :: S) h = (gf h 8 0 b).bind fun v => Run 84 44 L (v :: S) h := Rb rfl fun _ => rfl
set_option maxRecDepth 100000 in
theorem e84_44 {L : Lo} {h : Hp} {a1 : Nat} {a0 : Nat} (hO : isO h a0 4 = true) : Run 84 44 L [.ref a1, .ref a0] h = (Run 30 0 [some (.ref a0), some (.ref a1)] [] h).bind fun o => aft 84 44 47 L [] o := Rcv (c := 30) (As := [.ref a1]) (S' := []) (pc' := 47) 4 rfl hO
theorem e84_47 {L : Lo} {S : List Value} {h : Hp} {v : Nat} : Run 84 47 (some (.ref v) :: L) S h = Run 84 48 (some (.ref v) :: L) (.ref v :: S) h := Rg rfl
theorem e84_48 {L : Lo} {S : List Value} {h : Hp} {b : Nat} : Run 84 48 L (.ref b :: S) h = (gf h 8 0 b).bind fun v => Run 84 51 L (v :: S) h := Rb rfl fun _ => rfl
theorem e84_51 {L : Lo} {S : List Value} {h : Hp} {x0 : Option Value} {v : Int32} : Run 84 51 (x0 :: some (.int v) :: L) S h = Run 84 52 (x0 :: some (.int v) :: L) (.int v :: S) h := Rg rfl
theorem e84_52 {L : Lo} {S : List Value} {h : Hp} {x0 x1 : Option Value} {v : Int32} : Run 84 52 (x0 :: x1 :: some (.int v) :: L) S h = Run 84 53 (x0 :: x1 :: some (.int v) :: L) (.int v :: S) h := Rg rfl
set_option maxRecDepth 100000 in
theorem e84_53 {L : Lo} {h : Hp} {a2 : Int32} {a1 : Int32} {a0 : Nat} (hO : isO h a0 6 = true) : Run 84 53 L [.int a2, .int a1, .ref a0] h = (Run 49 0 [some (.ref a0), some (.int a1), some (.int a2)] [] h).bind fun o => aft 84 53 56 L [] o := Rcv (c := 49) (As := [.int a1, .int a2]) (S' := []) (pc' := 56) 6 rfl hO
theorem e84_56 {L : Lo} {S : List Value} {h : Hp} {x0 x1 x2 : Option Value} {v : Int32} : Run 84 56 (x0 :: x1 :: x2 :: some (.int v) :: L) S h = Run 84 57 (x0 :: x1 :: x2 :: some (.int v) :: L) (.int v :: S) h := Rg rfl
theorem e84_57 {L : Lo} {S : List Value} {h : Hp} {x : Int32} : Run 84 57 L (.int x :: S) h = if x = 0 then Run 84 64 L S h else Run 84 60 L S h := Rbr (c := cnd .eq x 0 = true) (off := 7) rfl rfl cnd_eq
theorem e84_60 {L : Lo} {S : List Value} {h : Hp} : Run 84 60 L S h = Run 84 61 L (.int 1 :: S) h := Rg rfl
theorem e84_61 {L : Lo} {S : List Value} {h : Hp} : Run 84 61 L S h = Run 84 65 L S h := Rg rfl
theorem e84_64 {L : Lo} {S : List Value} {h : Hp} : Run 84 64 L S h = Run 84 65 L (.int 0 :: S) h := Rg rfl
theorem e84_65 {L : Lo} {h : Hp} {x : Int32} : Run 84 65 L [.int x] h = some (.inl (some (.int x)), h) := Rd (if_pos (c := narrow .int (.int x) = .int x) rfl)
theorem e85_0 {L : Lo} {S : List Value} {h : Hp} {x0 : Option Value} {v : Int32} : Run 85 0 (x0 :: some (.int v) :: L) S h = Run 85 1 (x0 :: some (.int v) :: L) (.int v :: S) h := Rg rfl
set_option maxRecDepth 100000 in
theorem e85_1 {L : Lo} {h : Hp} {a0 : Int32} : Run 85 1 L [.int a0] h = (Run 113 0 [some (.int a0)] [] h).bind fun o => aft 85 1 4 L [] o := Rc (c := 113) (As := [.int a0]) (S' := []) (pc' := 4) rfl
theorem e85_4 {L : Lo} {S : List Value} {h : Hp} {x : Int32} : Run 85 4 L (.int x :: S) h = if x = 0 then Run 85 16 L S h else Run 85 7 L S h := Rbr (c := cnd .eq x 0 = true) (off := 12) rfl rfl cnd_eq
theorem e85_7 {L : Lo} {S : List Value} {h : Hp} {x0 x1 : Option Value} {v : Int32} : Run 85 7 (x0 :: x1 :: some (.int v) :: L) S h = Run 85 8 (x0 :: x1 :: some (.int v) :: L) (.int v :: S) h := Rg rfl
theorem e85_8 {L : Lo} {S : List Value} {h : Hp} {x : Int32} : Run 85 8 L (.int x :: S) h = if x < 0 then Run 85 16 L S h else Run 85 11 L S h := Rbr (c := cnd .lt x 0 = true) (off := 8) rfl rfl cnd_lt
theorem e85_11 {L : Lo} {S : List Value} {h : Hp} {x0 x1 : Option Value} {v : Int32} : Run 85 11 (x0 :: x1 :: some (.int v) :: L) S h = Run 85 12 (x0 :: x1 :: some (.int v) :: L) (.int v :: S) h := Rg rfl
theorem e85_12 {L : Lo} {S : List Value} {h : Hp} : Run 85 12 L S h = Run 85 13 L (.int 3 :: S) h := Rg rfl
theorem e85_13 {L : Lo} {S : List Value} {h : Hp} {x z : Int32} : Run 85 13 L (.int z :: .int x :: S) h = if x ≤ z then Run 85 26 L S h else Run 85 16 L S h := Rbr (c := cnd .le x z = true) (off := 13) rfl rfl cnd_le
theorem e85_16 {L : Lo} {h : Hp} : Run 85 16 L [] h = some (.inr "java/lang/IllegalArgumentException", hbump h) := Rd rfl
theorem e85_26 {L : Lo} {S : List Value} {h : Hp} {v : Nat} : Run 85 26 (some (.ref v) :: L) S h = Run 85 27 (some (.ref v) :: L) (.ref v :: S) h := Rg rfl
theorem e85_27 {L : Lo} {S : List Value} {h : Hp} {b : Nat} : Run 85 27 L (.ref b :: S) h = (gf h 8 0 b).bind fun v => Run 85 30 L (v :: S) h := Rb rfl fun _ => rfl
theorem e85_30 {L : Lo} {S : List Value} {h : Hp} {b : Nat} : Run 85 30 L (.ref b :: S) h = (gf h 6 2 b).bind fun v => Run 85 33 L (v :: S) h := Rb rfl fun _ => rfl
theorem e85_33 {L : Lo} {S : List Value} {h : Hp} {x0 x1 x2 : Option Value} {y : Option Value} {v : Int32} : Run 85 33 (x0 :: x1 :: x2 :: y :: L) (.int v :: S) h = Run 85 34 (x0 :: x1 :: ck x2 :: some (.int v) :: L) S h := Rg rfl
theorem e85_34 {L : Lo} {S : List Value} {h : Hp} {v : Nat} : Run 85 34 (some (.ref v) :: L) S h = Run 85 35 (some (.ref v) :: L) (.ref v :: S) h := Rg rfl
theorem e85_35 {L : Lo} {S : List Value} {h : Hp} {b : Nat} : Run 85 35 L (.ref b :: S) h = (gf h 8 1 b).bind fun v => Run 85 38 L (v :: S) h := Rb rfl fun _ => rfl
theorem e85_38 {L : Lo} {S : List Value} {h : Hp} {v : Nat} : Run 85 38 (some (.ref v) :: L) S h = Run 85 39 (some (.ref v) :: L) (.ref v :: S) h := Rg rfl
theorem e85_39 {L : Lo} {S : List Value} {h : Hp} {b : Nat} : Run 85 39 L (.ref b :: S) h = (gf h 8 0 b).bind fun v => Run 85 42 L (v :: S) h := Rb rfl fun _ => rfl
set_option maxRecDepth 100000 in
theorem e85_42 {L : Lo} {h : Hp} {a1 : Nat} {a0 : Nat} (hO : isO h a0 4 = true) : Run 85 42 L [.ref a1, .ref a0] h = (Run 30 0 [some (.ref a0), some (.ref a1)] [] h).bind fun o => aft 85 42 45 L [] o := Rcv (c := 30) (As := [.ref a1]) (S' := []) (pc' := 45) 4 rfl hO
theorem e85_45 {L : Lo} {S : List Value} {h : Hp} {v : Nat} : Run 85 45 (some (.ref v) :: L) S h = Run 85 46 (some (.ref v) :: L) (.ref v :: S) h := Rg rfl
theorem e85_46 {L : Lo} {S : List Value} {h : Hp} {b : Nat} : Run 85 46 L (.ref b :: S) h = (gf h 8 0 b).bind fun v => Run 85 49 L (v :: S) h := Rb rfl fun _ => rfl
theorem e85_49 {L : Lo} {S : List Value} {h : Hp} {x0 : Option Value} {v : Int32} : Run 85 49 (x0 :: some (.int v) :: L) S h = Run 85 50 (x0 :: some (.int v) :: L) (.int v :: S) h := Rg rfl
theorem e85_50 {L : Lo} {S : List Value} {h : Hp} {b : Nat} {v : Value} : Run 85 50 L (v :: .ref b :: S) h = (pf h 6 2 b v).bind fun h1 => Run 85 53 L S h1 := Rb rfl fun _ => rfl
theorem e85_53 {L : Lo} {S : List Value} {h : Hp} {v : Nat} : Run 85 53 (some (.ref v) :: L) S h = Run 85 54 (some (.ref v) :: L) (.ref v :: S) h := Rg rfl
theorem e85_54 {L : Lo} {S : List Value} {h : Hp} {b : Nat} : Run 85 54 L (.ref b :: S) h = (gf h 8 0 b).bind fun v => Run 85 57 L (v :: S) h := Rb rfl fun _ => rfl
theorem e85_57 {L : Lo} {S : List Value} {h : Hp} {x0 x1 : Option Value} {v : Int32} : Run 85 57 (x0 :: x1 :: some (.int v) :: L) S h = Run 85 58 (x0 :: x1 :: some (.int v) :: L) (.int v :: S) h := Rg rfl
theorem e85_58 {L : Lo} {S : List Value} {h : Hp} {b : Nat} {v : Value} : Run 85 58 L (v :: .ref b :: S) h = (pf h 6 3 b v).bind fun h1 => Run 85 61 L S h1 := Rb rfl fun _ => rfl
theorem e85_61 {L : Lo} {S : List Value} {h : Hp} {x0 x1 x2 : Option Value} {v : Int32} : Run 85 61 (x0 :: x1 :: x2 :: some (.int v) :: L) S h = Run 85 62 (x0 :: x1 :: x2 :: some (.int v) :: L) (.int v :: S) h := Rg rfl
theorem e85_62 {L : Lo} {h : Hp} {x : Int32} : Run 85 62 L [.int x] h = some (.inl (some (.int x)), h) := Rd (if_pos (c := narrow .int (.int x) = .int x) rfl)
theorem e86_0 {L : Lo} {S : List Value} {h : Hp} {v : Nat} : Run 86 0 (some (.ref v) :: L) S h = Run 86 1 (some (.ref v) :: L) (.ref v :: S) h := Rg rfl
theorem e86_1 {L : Lo} {S : List Value} {h : Hp} {x0 x1 : Option Value} {v : Int32} : Run 86 1 (x0 :: x1 :: some (.int v) :: L) S h = Run 86 2 (x0 :: x1 :: some (.int v) :: L) (.int v :: S) h := Rg rfl
set_option maxRecDepth 100000 in
theorem e86_2 {L : Lo} {h : Hp} {a1 : Int32} {a0 : Nat} (hO : isO h a0 8 = true) : Run 86 2 L [.int a1, .ref a0] h = (Run 109 0 [some (.ref a0), some (.int a1)] [] h).bind fun o => aft 86 2 5 L [] o := Rcv (c := 109) (As := [.int a1]) (S' := []) (pc' := 5) 8 rfl hO
theorem e86_5 {L : Lo} {S : List Value} {h : Hp} {x0 : Option Value} {v : Int32} : Run 86 5 (x0 :: some (.int v) :: L) S h = Run 86 6 (x0 :: some (.int v) :: L) (.int v :: S) h := Rg rfl
set_option maxRecDepth 100000 in
theorem e86_6 {L : Lo} {h : Hp} {a0 : Int32} : Run 86 6 L [.int a0] h = (Run 112 0 [some (.int a0)] [] h).bind fun o => aft 86 6 9 L [] o := Rc (c := 112) (As := [.int a0]) (S' := []) (pc' := 9) rfl
theorem e86_9 {L : Lo} {S : List Value} {h : Hp} {x : Int32} : Run 86 9 L (.int x :: S) h = if x = 0 then Run 86 19 L S h else Run 86 12 L S h := Rbr (c := cnd .eq x 0 = true) (off := 10) rfl rfl cnd_eq
theorem e86_12 {L : Lo} {S : List Value} {h : Hp} {x0 x1 x2 : Option Value} {v : Int32} : Run 86 12 (x0 :: x1 :: x2 :: some (.int v) :: L) S h = Run 86 13 (x0 :: x1 :: x2 :: some (.int v) :: L) (.int v :: S) h := Rg rfl
set_option maxRecDepth 100000 in
theorem e86_13 {L : Lo} {h : Hp} {a0 : Int32} : Run 86 13 L [.int a0] h = (Run 113 0 [some (.int a0)] [] h).bind fun o => aft 86 13 16 L [] o := Rc (c := 113) (As := [.int a0]) (S' := []) (pc' := 16) rfl
theorem e86_16 {L : Lo} {S : List Value} {h : Hp} {x : Int32} : Run 86 16 L (.int x :: S) h = if x = 0 then Run 86 19 L S h else Run 86 29 L S h := RbrN (c := cnd .ne x 0 = true) (off := 13) rfl rfl cnd_ne
theorem e86_19 {L : Lo} {h : Hp} : Run 86 19 L [] h = some (.inr "java/lang/IllegalArgumentException", hbump h) := Rd rfl
theorem e86_29 {L : Lo} {S : List Value} {h : Hp} {x0 x1 x2 x3 : Option Value} {v : Int32} : Run 86 29 (x0 :: x1 :: x2 :: x3 :: some (.int v) :: L) S h = Run 86 31 (x0 :: x1 :: x2 :: x3 :: some (.int v) :: L) (.int v :: S) h := Rg rfl
theorem e86_31 {L : Lo} {S : List Value} {h : Hp} : Run 86 31 L S h = Run 86 32 L (.int 1 :: S) h := Rg rfl
theorem e86_32 {L : Lo} {S : List Value} {h : Hp} {x z : Int32} : Run 86 32 L (.int z :: .int x :: S) h = if x < z then Run 86 67 L S h else Run 86 35 L S h := Rbr (c := cnd .lt x z = true) (off := 35) rfl rfl cnd_lt
theorem e86_35 {L : Lo} {S : List Value} {h : Hp} {x0 x1 x2 x3 : Option Value} {v : Int32} : Run 86 35 (x0 :: x1 :: x2 :: x3 :: some (.int v) :: L) S h = Run 86 37 (x0 :: x1 :: x2 :: x3 :: some (.int v) :: L) (.int v :: S) h := Rg rfl
theorem e86_37 {L : Lo} {S : List Value} {h : Hp} : Run 86 37 L S h = Run 86 39 L (.int 60 :: S) h := Rg rfl
theorem e86_39 {L : Lo} {S : List Value} {h : Hp} {x z : Int32} : Run 86 39 L (.int z :: .int x :: S) h = if z < x then Run 86 67 L S h else Run 86 42 L S h := Rbr (c := cnd .gt x z = true) (off := 28) rfl rfl cnd_gt
theorem e86_42 {L : Lo} {S : List Value} {h : Hp} {x0 x1 x2 x3 x4 : Option Value} {v : Int32} : Run 86 42 (x0 :: x1 :: x2 :: x3 :: x4 :: some (.int v) :: L) S h = Run 86 44 (x0 :: x1 :: x2 :: x3 :: x4 :: some (.int v) :: L) (.int v :: S) h := Rg rfl
theorem e86_44 {L : Lo} {S : List Value} {h : Hp} {x : Int32} : Run 86 44 L (.int x :: S) h = if x < 0 then Run 86 67 L S h else Run 86 47 L S h := Rbr (c := cnd .lt x 0 = true) (off := 23) rfl rfl cnd_lt
theorem e86_47 {L : Lo} {S : List Value} {h : Hp} {x0 x1 x2 x3 x4 : Option Value} {v : Int32} : Run 86 47 (x0 :: x1 :: x2 :: x3 :: x4 :: some (.int v) :: L) S h = Run 86 49 (x0 :: x1 :: x2 :: x3 :: x4 :: some (.int v) :: L) (.int v :: S) h := Rg rfl
theorem e86_49 {L : Lo} {S : List Value} {h : Hp} : Run 86 49 L S h = Run 86 51 L (.int 12 :: S) h := Rg rfl
theorem e86_51 {L : Lo} {S : List Value} {h : Hp} {x z : Int32} : Run 86 51 L (.int z :: .int x :: S) h = if z < x then Run 86 67 L S h else Run 86 54 L S h := Rbr (c := cnd .gt x z = true) (off := 16) rfl rfl cnd_gt
theorem e86_54 {L : Lo} {S : List Value} {h : Hp} {x0 x1 x2 x3 x4 x5 : Option Value} {v : Int32} : Run 86 54 (x0 :: x1 :: x2 :: x3 :: x4 :: x5 :: some (.int v) :: L) S h = Run 86 56 (x0 :: x1 :: x2 :: x3 :: x4 :: x5 :: some (.int v) :: L) (.int v :: S) h := Rg rfl
theorem e86_56 {L : Lo} {S : List Value} {h : Hp} : Run 86 56 L S h = Run 86 57 L (.int 1 :: S) h := Rg rfl
theorem e86_57 {L : Lo} {S : List Value} {h : Hp} {x z : Int32} : Run 86 57 L (.int z :: .int x :: S) h = if x < z then Run 86 67 L S h else Run 86 60 L S h := Rbr (c := cnd .lt x z = true) (off := 10) rfl rfl cnd_lt
theorem e86_60 {L : Lo} {S : List Value} {h : Hp} {x0 x1 x2 x3 x4 x5 : Option Value} {v : Int32} : Run 86 60 (x0 :: x1 :: x2 :: x3 :: x4 :: x5 :: some (.int v) :: L) S h = Run 86 62 (x0 :: x1 :: x2 :: x3 :: x4 :: x5 :: some (.int v) :: L) (.int v :: S) h := Rg rfl
theorem e86_62 {L : Lo} {S : List Value} {h : Hp} : Run 86 62 L S h = Run 86 64 L (.int 60 :: S) h := Rg rfl
theorem e86_64 {L : Lo} {S : List Value} {h : Hp} {x z : Int32} : Run 86 64 L (.int z :: .int x :: S) h = if x ≤ z then Run 86 77 L S h else Run 86 67 L S h := Rbr (c := cnd .le x z = true) (off := 13) rfl rfl cnd_le
theorem e86_67 {L : Lo} {h : Hp} : Run 86 67 L [] h = some (.inr "java/lang/IllegalArgumentException", hbump h) := Rd rfl
theorem e86_77 {L : Lo} {S : List Value} {h : Hp} {v : Nat} : Run 86 77 (some (.ref v) :: L) S h = Run 86 78 (some (.ref v) :: L) (.ref v :: S) h := Rg rfl
theorem e86_78 {L : Lo} {S : List Value} {h : Hp} {b : Nat} : Run 86 78 L (.ref b :: S) h = (gf h 8 0 b).bind fun v => Run 86 81 L (v :: S) h := Rb rfl fun _ => rfl
theorem e86_81 {L : Lo} {S : List Value} {h : Hp} {b : Nat} : Run 86 81 L (.ref b :: S) h = (gf h 6 5 b).bind fun v => Run 86 84 L (v :: S) h := Rb rfl fun _ => rfl
theorem e86_84 {L : Lo} {S : List Value} {h : Hp} : Run 86 84 L S h = Run 86 86 L (.int 8 :: S) h := Rg rfl
theorem e86_86 {L : Lo} {S : List Value} {h : Hp} {x z : Int32} : Run 86 86 L (.int z :: .int x :: S) h = if z ≤ x then Run 86 100 L S h else Run 86 89 L S h := Rbr (c := cnd .ge x z = true) (off := 14) rfl rfl cnd_ge
theorem e86_89 {L : Lo} {S : List Value} {h : Hp} {v : Nat} : Run 86 89 (some (.ref v) :: L) S h = Run 86 90 (some (.ref v) :: L) (.ref v :: S) h := Rg rfl
theorem e86_90 {L : Lo} {S : List Value} {h : Hp} {b : Nat} : Run 86 90 L (.ref b :: S) h = (gf h 8 0 b).bind fun v => Run 86 93 L (v :: S) h := Rb rfl fun _ => rfl
theorem e86_93 {L : Lo} {S : List Value} {h : Hp} {x0 x1 : Option Value} {v : Int32} : Run 86 93 (x0 :: x1 :: some (.int v) :: L) S h = Run 86 94 (x0 :: x1 :: some (.int v) :: L) (.int v :: S) h := Rg rfl
set_option maxRecDepth 100000 in
theorem e86_94 {L : Lo} {h : Hp} {a1 : Int32} {a0 : Nat} (hO : isO h a0 6 = true) : Run 86 94 L [.int a1, .ref a0] h = (Run 51 0 [some (.ref a0), some (.int a1)] [] h).bind fun o => aft 86 94 97 L [] o := Rcv (c := 51) (As := [.int a1]) (S' := []) (pc' := 97) 6 rfl hO
theorem e86_97 {L : Lo} {S : List Value} {h : Hp} {x : Int32} : Run 86 97 L (.int x :: S) h = if x = 0 then Run 86 100 L S h else Run 86 110 L S h := RbrN (c := cnd .ne x 0 = true) (off := 13) rfl rfl cnd_ne
theorem e86_100 {L : Lo} {h : Hp} : Run 86 100 L [] h = some (.inr "java/lang/IllegalStateException", hbump h) := Rd rfl
theorem e86_110 {L : Lo} {S : List Value} {h : Hp} {v : Nat} : Run 86 110 (some (.ref v) :: L) S h = Run 86 111 (some (.ref v) :: L) (.ref v :: S) h := Rg rfl
theorem e86_111 {L : Lo} {S : List Value} {h : Hp} {b : Nat} : Run 86 111 L (.ref b :: S) h = (gf h 8 1 b).bind fun v => Run 86 114 L (v :: S) h := Rb rfl fun _ => rfl
theorem e86_114 {L : Lo} {S : List Value} {h : Hp} {v : Nat} : Run 86 114 (some (.ref v) :: L) S h = Run 86 115 (some (.ref v) :: L) (.ref v :: S) h := Rg rfl
theorem e86_115 {L : Lo} {S : List Value} {h : Hp} {b : Nat} : Run 86 115 L (.ref b :: S) h = (gf h 8 0 b).bind fun v => Run 86 118 L (v :: S) h := Rb rfl fun _ => rfl
set_option maxRecDepth 100000 in
theorem e86_118 {L : Lo} {h : Hp} {a1 : Nat} {a0 : Nat} (hO : isO h a0 4 = true) : Run 86 118 L [.ref a1, .ref a0] h = (Run 30 0 [some (.ref a0), some (.ref a1)] [] h).bind fun o => aft 86 118 121 L [] o := Rcv (c := 30) (As := [.ref a1]) (S' := []) (pc' := 121) 4 rfl hO
theorem e86_121 {L : Lo} {S : List Value} {h : Hp} {v : Nat} : Run 86 121 (some (.ref v) :: L) S h = Run 86 122 (some (.ref v) :: L) (.ref v :: S) h := Rg rfl
theorem e86_122 {L : Lo} {S : List Value} {h : Hp} {b : Nat} : Run 86 122 L (.ref b :: S) h = (gf h 8 0 b).bind fun v => Run 86 125 L (v :: S) h := Rb rfl fun _ => rfl
theorem e86_125 {L : Lo} {S : List Value} {h : Hp} {b : Nat} : Run 86 125 L (.ref b :: S) h = (gf h 6 5 b).bind fun v => Run 86 128 L (v :: S) h := Rb rfl fun _ => rfl
theorem e86_128 {L : Lo} {S : List Value} {h : Hp} {x0 x1 x2 x3 x4 x5 x6 : Option Value} {y : Option Value} {v : Int32} : Run 86 128 (x0 :: x1 :: x2 :: x3 :: x4 :: x5 :: x6 :: y :: L) (.int v :: S) h = Run 86 130 (x0 :: x1 :: x2 :: x3 :: x4 :: x5 :: ck x6 :: some (.int v) :: L) S h := Rg rfl
theorem e86_130 {L : Lo} {S : List Value} {h : Hp} {v : Nat} : Run 86 130 (some (.ref v) :: L) S h = Run 86 131 (some (.ref v) :: L) (.ref v :: S) h := Rg rfl
theorem e86_131 {L : Lo} {S : List Value} {h : Hp} {b : Nat} : Run 86 131 L (.ref b :: S) h = (gf h 8 0 b).bind fun v => Run 86 134 L (v :: S) h := Rb rfl fun _ => rfl
theorem e86_134 {L : Lo} {S : List Value} {h : Hp} {b : Nat} : Run 86 134 L (.ref b :: S) h = (gf h 6 7 b).bind fun v => Run 86 137 L (v :: S) h := Rb rfl fun _ => rfl
theorem e86_137 {L : Lo} {S : List Value} {h : Hp} {x0 x1 x2 x3 x4 x5 x6 : Option Value} {v : Int32} : Run 86 137 (x0 :: x1 :: x2 :: x3 :: x4 :: x5 :: x6 :: some (.int v) :: L) S h = Run 86 139 (x0 :: x1 :: x2 :: x3 :: x4 :: x5 :: x6 :: some (.int v) :: L) (.int v :: S) h := Rg rfl
theorem e86_139 {L : Lo} {S : List Value} {h : Hp} {i : Int32} {b : Nat} : Run 86 139 L (.int i :: .ref b :: S) h = (gaR h b i).bind fun v => Run 86 140 L (va_rf v :: S) h := Rb rfl fun _ => rfl
theorem e86_140 {L : Lo} {S : List Value} {h : Hp} {x0 x1 x2 x3 x4 x5 x6 x7 : Option Value} {y : Option Value} {v : Nat} : Run 86 140 (x0 :: x1 :: x2 :: x3 :: x4 :: x5 :: x6 :: x7 :: y :: L) (.ref v :: S) h = Run 86 142 (x0 :: x1 :: x2 :: x3 :: x4 :: x5 :: x6 :: ck x7 :: some (.ref v) :: L) S h := Rg rfl
theorem e86_142 {L : Lo} {S : List Value} {h : Hp} {x0 x1 x2 x3 x4 x5 x6 x7 : Option Value} {v : Nat} : Run 86 142 (x0 :: x1 :: x2 :: x3 :: x4 :: x5 :: x6 :: x7 :: some (.ref v) :: L) S h = Run 86 144 (x0 :: x1 :: x2 :: x3 :: x4 :: x5 :: x6 :: x7 :: some (.ref v) :: L) (.ref v :: S) h := Rg rfl
theorem e86_144 {L : Lo} {S : List Value} {h : Hp} {x0 : Option Value} {v : Int32} : Run 86 144 (x0 :: some (.int v) :: L) S h = Run 86 145 (x0 :: some (.int v) :: L) (.int v :: S) h := Rg rfl
theorem e86_145 {L : Lo} {S : List Value} {h : Hp} {x0 x1 : Option Value} {v : Int32} : Run 86 145 (x0 :: x1 :: some (.int v) :: L) S h = Run 86 146 (x0 :: x1 :: some (.int v) :: L) (.int v :: S) h := Rg rfl
theorem e86_146 {L : Lo} {S : List Value} {h : Hp} {x0 x1 x2 : Option Value} {v : Int32} : Run 86 146 (x0 :: x1 :: x2 :: some (.int v) :: L) S h = Run 86 147 (x0 :: x1 :: x2 :: some (.int v) :: L) (.int v :: S) h := Rg rfl
theorem e86_147 {L : Lo} {S : List Value} {h : Hp} {x0 x1 x2 x3 : Option Value} {v : Int32} : Run 86 147 (x0 :: x1 :: x2 :: x3 :: some (.int v) :: L) S h = Run 86 149 (x0 :: x1 :: x2 :: x3 :: some (.int v) :: L) (.int v :: S) h := Rg rfl
theorem e86_149 {L : Lo} {S : List Value} {h : Hp} {x0 x1 x2 x3 x4 : Option Value} {v : Int32} : Run 86 149 (x0 :: x1 :: x2 :: x3 :: x4 :: some (.int v) :: L) S h = Run 86 151 (x0 :: x1 :: x2 :: x3 :: x4 :: some (.int v) :: L) (.int v :: S) h := Rg rfl
theorem e86_151 {L : Lo} {S : List Value} {h : Hp} {x0 x1 x2 x3 x4 x5 : Option Value} {v : Int32} : Run 86 151 (x0 :: x1 :: x2 :: x3 :: x4 :: x5 :: some (.int v) :: L) S h = Run 86 153 (x0 :: x1 :: x2 :: x3 :: x4 :: x5 :: some (.int v) :: L) (.int v :: S) h := Rg rfl
set_option maxRecDepth 100000 in
theorem e86_153 {L : Lo} {h : Hp} {a6 : Int32} {a5 : Int32} {a4 : Int32} {a3 : Int32} {a2 : Int32} {a1 : Int32} {a0 : Nat} (hO : isO h a0 7 = true) : Run 86 153 L [.int a6, .int a5, .int a4, .int a3, .int a2, .int a1, .ref a0] h = (Run 71 0 [some (.ref a0), some (.int a1), some (.int a2), some (.int a3), some (.int a4), some (.int a5), some (.int a6)] [] h).bind fun o => aft 86 153 156 L [] o := Rcv (c := 71) (As := [.int a1, .int a2, .int a3, .int a4, .int a5, .int a6]) (S' := []) (pc' := 156) 7 rfl hO
theorem e86_156 {L : Lo} {S : List Value} {h : Hp} {v : Nat} : Run 86 156 (some (.ref v) :: L) S h = Run 86 157 (some (.ref v) :: L) (.ref v :: S) h := Rg rfl
theorem e86_157 {L : Lo} {S : List Value} {h : Hp} {b : Nat} : Run 86 157 L (.ref b :: S) h = (gf h 8 0 b).bind fun v => Run 86 160 L (v :: S) h := Rb rfl fun _ => rfl
theorem e86_160 {L : Lo} {S : List Value} {h : Hp} {x0 x1 x2 x3 x4 x5 x6 : Option Value} {v : Int32} : Run 86 160 (x0 :: x1 :: x2 :: x3 :: x4 :: x5 :: x6 :: some (.int v) :: L) S h = Run 86 162 (x0 :: x1 :: x2 :: x3 :: x4 :: x5 :: x6 :: some (.int v) :: L) (.int v :: S) h := Rg rfl
theorem e86_162 {L : Lo} {S : List Value} {h : Hp} : Run 86 162 L S h = Run 86 163 L (.int 1 :: S) h := Rg rfl
theorem e86_163 {L : Lo} {S : List Value} {h : Hp} {x z : Int32} : Run 86 163 L (.int z :: .int x :: S) h = Run 86 164 L (.int (x + z) :: S) h := Rg rfl
theorem e86_164 {L : Lo} {S : List Value} {h : Hp} {b : Nat} {v : Value} : Run 86 164 L (v :: .ref b :: S) h = (pf h 6 5 b v).bind fun h1 => Run 86 167 L S h1 := Rb rfl fun _ => rfl
theorem e86_167 {L : Lo} {S : List Value} {h : Hp} {v : Nat} : Run 86 167 (some (.ref v) :: L) S h = Run 86 168 (some (.ref v) :: L) (.ref v :: S) h := Rg rfl
theorem e86_168 {L : Lo} {S : List Value} {h : Hp} {b : Nat} : Run 86 168 L (.ref b :: S) h = (gf h 8 2 b).bind fun v => Run 86 171 L (v :: S) h := Rb rfl fun _ => rfl
theorem e86_171 {L : Lo} {S : List Value} {h : Hp} {x0 x1 x2 x3 x4 x5 x6 x7 : Option Value} {v : Nat} : Run 86 171 (x0 :: x1 :: x2 :: x3 :: x4 :: x5 :: x6 :: x7 :: some (.ref v) :: L) S h = Run 86 173 (x0 :: x1 :: x2 :: x3 :: x4 :: x5 :: x6 :: x7 :: some (.ref v) :: L) (.ref v :: S) h := Rg rfl
set_option maxRecDepth 100000 in
theorem e86_173 {L : Lo} {h : Hp} {a1 : Nat} {a0 : Nat} (hO : isO h a0 3 = true) : Run 86 173 L [.ref a1, .ref a0] h = (Run 23 0 [some (.ref a0), some (.ref a1), none] [] h).bind fun o => aft 86 173 176 L [] o := Rcv (c := 23) (As := [.ref a1]) (S' := []) (pc' := 176) 3 rfl hO
theorem e86_176 {L : Lo} {S : List Value} {h : Hp} {x0 x1 x2 x3 x4 x5 x6 : Option Value} {v : Int32} : Run 86 176 (x0 :: x1 :: x2 :: x3 :: x4 :: x5 :: x6 :: some (.int v) :: L) S h = Run 86 178 (x0 :: x1 :: x2 :: x3 :: x4 :: x5 :: x6 :: some (.int v) :: L) (.int v :: S) h := Rg rfl
theorem e86_178 {L : Lo} {h : Hp} {x : Int32} : Run 86 178 L [.int x] h = some (.inl (some (.int x)), h) := Rd (if_pos (c := narrow .int (.int x) = .int x) rfl)
theorem e87_0 {L : Lo} {S : List Value} {h : Hp} {x0 : Option Value} {v : Int32} : Run 87 0 (x0 :: some (.int v) :: L) S h = Run 87 1 (x0 :: some (.int v) :: L) (.int v :: S) h := Rg rfl
theorem e87_1 {L : Lo} {S : List Value} {h : Hp} {x : Int32} : Run 87 1 L (.int x :: S) h = if x < 0 then Run 87 10 L S h else Run 87 4 L S h := Rbr (c := cnd .lt x 0 = true) (off := 9) rfl rfl cnd_lt
theorem e87_4 {L : Lo} {S : List Value} {h : Hp} {x0 : Option Value} {v : Int32} : Run 87 4 (x0 :: some (.int v) :: L) S h = Run 87 5 (x0 :: some (.int v) :: L) (.int v :: S) h := Rg rfl
theorem e87_5 {L : Lo} {S : List Value} {h : Hp} : Run 87 5 L S h = Run 87 7 L (.int 9 :: S) h := Rg rfl
theorem e87_7 {L : Lo} {S : List Value} {h : Hp} {x z : Int32} : Run 87 7 L (.int z :: .int x :: S) h = if x ≤ z then Run 87 20 L S h else Run 87 10 L S h := Rbr (c := cnd .le x z = true) (off := 13) rfl rfl cnd_le
theorem e87_10 {L : Lo} {h : Hp} : Run 87 10 L [] h = some (.inr "java/lang/IllegalArgumentException", hbump h) := Rd rfl
theorem e87_20 {L : Lo} {S : List Value} {h : Hp} {v : Nat} : Run 87 20 (some (.ref v) :: L) S h = Run 87 21 (some (.ref v) :: L) (.ref v :: S) h := Rg rfl
theorem e87_21 {L : Lo} {S : List Value} {h : Hp} {b : Nat} : Run 87 21 L (.ref b :: S) h = (gf h 8 0 b).bind fun v => Run 87 24 L (v :: S) h := Rb rfl fun _ => rfl
theorem e87_24 {L : Lo} {S : List Value} {h : Hp} {x0 : Option Value} {v : Int32} : Run 87 24 (x0 :: some (.int v) :: L) S h = Run 87 25 (x0 :: some (.int v) :: L) (.int v :: S) h := Rg rfl
set_option maxRecDepth 100000 in
theorem e87_25 {L : Lo} {h : Hp} {a1 : Int32} {a0 : Nat} (hO : isO h a0 6 = true) : Run 87 25 L [.int a1, .ref a0] h = (Run 68 0 [some (.ref a0), some (.int a1)] [] h).bind fun o => aft 87 25 28 L [] o := Rcv (c := 68) (As := [.int a1]) (S' := []) (pc' := 28) 6 rfl hO
theorem e87_28 {L : Lo} {h : Hp} {x : Int32} : Run 87 28 L [.int x] h = some (.inl (some (.int x)), h) := Rd (if_pos (c := narrow .int (.int x) = .int x) rfl)
theorem e88_0 {L : Lo} {S : List Value} {h : Hp} {v : Nat} : Run 88 0 (some (.ref v) :: L) S h = Run 88 1 (some (.ref v) :: L) (.ref v :: S) h := Rg rfl
theorem e88_1 {L : Lo} {S : List Value} {h : Hp} {x0 : Option Value} {v : Int32} : Run 88 1 (x0 :: some (.int v) :: L) S h = Run 88 2 (x0 :: some (.int v) :: L) (.int v :: S) h := Rg rfl
set_option maxRecDepth 100000 in
theorem e88_2 {L : Lo} {h : Hp} {a1 : Int32} {a0 : Nat} (hO : isO h a0 8 = true) : Run 88 2 L [.int a1, .ref a0] h = (Run 110 0 [some (.ref a0), some (.int a1)] [] h).bind fun o => aft 88 2 5 L [] o := Rcv (c := 110) (As := [.int a1]) (S' := []) (pc' := 5) 8 rfl hO
theorem e88_5 {L : Lo} {S : List Value} {h : Hp} {x0 x1 : Option Value} {v : Int32} : Run 88 5 (x0 :: x1 :: some (.int v) :: L) S h = Run 88 6 (x0 :: x1 :: some (.int v) :: L) (.int v :: S) h := Rg rfl
theorem e88_6 {L : Lo} {S : List Value} {h : Hp} {x : Int32} : Run 88 6 L (.int x :: S) h = if x < 0 then Run 88 15 L S h else Run 88 9 L S h := Rbr (c := cnd .lt x 0 = true) (off := 9) rfl rfl cnd_lt
theorem e88_9 {L : Lo} {S : List Value} {h : Hp} {x0 x1 : Option Value} {v : Int32} : Run 88 9 (x0 :: x1 :: some (.int v) :: L) S h = Run 88 10 (x0 :: x1 :: some (.int v) :: L) (.int v :: S) h := Rg rfl
theorem e88_10 {L : Lo} {S : List Value} {h : Hp} : Run 88 10 L S h = Run 88 12 L (.int 14 :: S) h := Rg rfl
theorem e88_12 {L : Lo} {S : List Value} {h : Hp} {x z : Int32} : Run 88 12 L (.int z :: .int x :: S) h = if x ≤ z then Run 88 25 L S h else Run 88 15 L S h := Rbr (c := cnd .le x z = true) (off := 13) rfl rfl cnd_le
theorem e88_15 {L : Lo} {h : Hp} : Run 88 15 L [] h = some (.inr "java/lang/IllegalArgumentException", hbump h) := Rd rfl
theorem e88_25 {L : Lo} {S : List Value} {h : Hp} {v : Nat} : Run 88 25 (some (.ref v) :: L) S h = Run 88 26 (some (.ref v) :: L) (.ref v :: S) h := Rg rfl
theorem e88_26 {L : Lo} {S : List Value} {h : Hp} {b : Nat} : Run 88 26 L (.ref b :: S) h = (gf h 8 0 b).bind fun v => Run 88 29 L (v :: S) h := Rb rfl fun _ => rfl
theorem e88_29 {L : Lo} {S : List Value} {h : Hp} {v : Nat} : Run 88 29 (some (.ref v) :: L) S h = Run 88 30 (some (.ref v) :: L) (.ref v :: S) h := Rg rfl
theorem e88_30 {L : Lo} {S : List Value} {h : Hp} {b : Nat} : Run 88 30 L (.ref b :: S) h = (gf h 8 0 b).bind fun v => Run 88 33 L (v :: S) h := Rb rfl fun _ => rfl
theorem e88_33 {L : Lo} {S : List Value} {h : Hp} {b : Nat} : Run 88 33 L (.ref b :: S) h = (gf h 6 7 b).bind fun v => Run 88 36 L (v :: S) h := Rb rfl fun _ => rfl
theorem e88_36 {L : Lo} {S : List Value} {h : Hp} {x0 : Option Value} {v : Int32} : Run 88 36 (x0 :: some (.int v) :: L) S h = Run 88 37 (x0 :: some (.int v) :: L) (.int v :: S) h := Rg rfl
theorem e88_37 {L : Lo} {S : List Value} {h : Hp} {i : Int32} {b : Nat} : Run 88 37 L (.int i :: .ref b :: S) h = (gaR h b i).bind fun v => Run 88 38 L (va_rf v :: S) h := Rb rfl fun _ => rfl
theorem e88_38 {L : Lo} {S : List Value} {h : Hp} {x0 x1 : Option Value} {v : Int32} : Run 88 38 (x0 :: x1 :: some (.int v) :: L) S h = Run 88 39 (x0 :: x1 :: some (.int v) :: L) (.int v :: S) h := Rg rfl
set_option maxRecDepth 100000 in
theorem e88_39 {L : Lo} {h : Hp} {a2 : Int32} {a1 : Nat} {a0 : Nat} (hO : isO h a0 6 = true) : Run 88 39 L [.int a2, .ref a1, .ref a0] h = (Run 69 0 [some (.ref a0), some (.ref a1), some (.int a2)] [] h).bind fun o => aft 88 39 42 L [] o := Rcv (c := 69) (As := [.ref a1, .int a2]) (S' := []) (pc' := 42) 6 rfl hO
theorem e88_42 {L : Lo} {h : Hp} {x : Int32} : Run 88 42 L [.int x] h = some (.inl (some (.int x)), h) := Rd (if_pos (c := narrow .int (.int x) = .int x) rfl)
theorem e89_0 {L : Lo} {S : List Value} {h : Hp} {v : Nat} : Run 89 0 (some (.ref v) :: L) S h = Run 89 1 (some (.ref v) :: L) (.ref v :: S) h := Rg rfl
theorem e89_1 {L : Lo} {S : List Value} {h : Hp} {x0 : Option Value} {v : Int32} : Run 89 1 (x0 :: some (.int v) :: L) S h = Run 89 2 (x0 :: some (.int v) :: L) (.int v :: S) h := Rg rfl
set_option maxRecDepth 100000 in
theorem e89_2 {L : Lo} {h : Hp} {a1 : Int32} {a0 : Nat} (hO : isO h a0 8 = true) : Run 89 2 L [.int a1, .ref a0] h = (Run 109 0 [some (.ref a0), some (.int a1)] [] h).bind fun o => aft 89 2 5 L [] o := Rcv (c := 109) (As := [.int a1]) (S' := []) (pc' := 5) 8 rfl hO
theorem e89_5 {L : Lo} {S : List Value} {h : Hp} {v : Nat} : Run 89 5 (some (.ref v) :: L) S h = Run 89 6 (some (.ref v) :: L) (.ref v :: S) h := Rg rfl
theorem e89_6 {L : Lo} {S : List Value} {h : Hp} {b : Nat} : Run 89 6 L (.ref b :: S) h = (gf h 8 0 b).bind fun v => Run 89 9 L (v :: S) h := Rb rfl fun _ => rfl
theorem e89_9 {L : Lo} {S : List Value} {h : Hp} {x0 : Option Value} {v : Int32} : Run 89 9 (x0 :: some (.int v) :: L) S h = Run 89 10 (x0 :: some (.int v) :: L) (.int v :: S) h := Rg rfl
set_option maxRecDepth 100000 in
theorem e89_10 {L : Lo} {h : Hp} {a1 : Int32} {a0 : Nat} (hO : isO h a0 6 = true) : Run 89 10 L [.int a1, .ref a0] h = (Run 52 0 [some (.ref a0), some (.int a1)] [] h).bind fun o => aft 89 10 13 L [] o := Rcv (c := 52) (As := [.int a1]) (S' := []) (pc' := 13) 6 rfl hO
theorem e89_13 {L : Lo} {h : Hp} {x : Int32} : Run 89 13 L [.int x] h = some (.inl (some (.int x)), h) := Rd (if_pos (c := narrow .int (.int x) = .int x) rfl)
theorem e90_0 {L : Lo} {S : List Value} {h : Hp} {v : Nat} : Run 90 0 (some (.ref v) :: L) S h = Run 90 1 (some (.ref v) :: L) (.ref v :: S) h := Rg rfl
theorem e90_1 {L : Lo} {S : List Value} {h : Hp} {x0 : Option Value} {v : Int32} : Run 90 1 (x0 :: some (.int v) :: L) S h = Run 90 2 (x0 :: some (.int v) :: L) (.int v :: S) h := Rg rfl
set_option maxRecDepth 100000 in
theorem e90_2 {L : Lo} {h : Hp} {a1 : Int32} {a0 : Nat} (hO : isO h a0 8 = true) : Run 90 2 L [.int a1, .ref a0] h = (Run 109 0 [some (.ref a0), some (.int a1)] [] h).bind fun o => aft 90 2 5 L [] o := Rcv (c := 109) (As := [.int a1]) (S' := []) (pc' := 5) 8 rfl hO
theorem e90_5 {L : Lo} {S : List Value} {h : Hp} {v : Nat} : Run 90 5 (some (.ref v) :: L) S h = Run 90 6 (some (.ref v) :: L) (.ref v :: S) h := Rg rfl
theorem e90_6 {L : Lo} {S : List Value} {h : Hp} {x0 x1 : Option Value} {v : Int32} : Run 90 6 (x0 :: x1 :: some (.int v) :: L) S h = Run 90 7 (x0 :: x1 :: some (.int v) :: L) (.int v :: S) h := Rg rfl
set_option maxRecDepth 100000 in
theorem e90_7 {L : Lo} {h : Hp} {a1 : Int32} {a0 : Nat} (hO : isO h a0 8 = true) : Run 90 7 L [.int a1, .ref a0] h = (Run 109 0 [some (.ref a0), some (.int a1)] [] h).bind fun o => aft 90 7 10 L [] o := Rcv (c := 109) (As := [.int a1]) (S' := []) (pc' := 10) 8 rfl hO
theorem e90_10 {L : Lo} {S : List Value} {h : Hp} {v : Nat} : Run 90 10 (some (.ref v) :: L) S h = Run 90 11 (some (.ref v) :: L) (.ref v :: S) h := Rg rfl
theorem e90_11 {L : Lo} {S : List Value} {h : Hp} {b : Nat} : Run 90 11 L (.ref b :: S) h = (gf h 8 0 b).bind fun v => Run 90 14 L (v :: S) h := Rb rfl fun _ => rfl
theorem e90_14 {L : Lo} {S : List Value} {h : Hp} {x0 : Option Value} {v : Int32} : Run 90 14 (x0 :: some (.int v) :: L) S h = Run 90 15 (x0 :: some (.int v) :: L) (.int v :: S) h := Rg rfl
theorem e90_15 {L : Lo} {S : List Value} {h : Hp} {x0 x1 : Option Value} {v : Int32} : Run 90 15 (x0 :: x1 :: some (.int v) :: L) S h = Run 90 16 (x0 :: x1 :: some (.int v) :: L) (.int v :: S) h := Rg rfl
set_option maxRecDepth 100000 in
theorem e90_16 {L : Lo} {h : Hp} {a2 : Int32} {a1 : Int32} {a0 : Nat} (hO : isO h a0 6 = true) : Run 90 16 L [.int a2, .int a1, .ref a0] h = (Run 54 0 [some (.ref a0), some (.int a1), some (.int a2), none, none] [] h).bind fun o => aft 90 16 19 L [] o := Rcv (c := 54) (As := [.int a1, .int a2]) (S' := []) (pc' := 19) 6 rfl hO
theorem e90_19 {L : Lo} {h : Hp} {x : Int32} : Run 90 19 L [.int x] h = some (.inl (some (.int x)), h) := Rd (if_pos (c := narrow .int (.int x) = .int x) rfl)
theorem e91_0 {L : Lo} {S : List Value} {h : Hp} {v : Nat} : Run 91 0 (some (.ref v) :: L) S h = Run 91 1 (some (.ref v) :: L) (.ref v :: S) h := Rg rfl
theorem e91_1 {L : Lo} {S : List Value} {h : Hp} {x0 : Option Value} {v : Int32} : Run 91 1 (x0 :: some (.int v) :: L) S h = Run 91 2 (x0 :: some (.int v) :: L) (.int v :: S) h := Rg rfl
set_option maxRecDepth 100000 in
theorem e91_2 {L : Lo} {h : Hp} {a1 : Int32} {a0 : Nat} (hO : isO h a0 8 = true) : Run 91 2 L [.int a1, .ref a0] h = (Run 109 0 [some (.ref a0), some (.int a1)] [] h).bind fun o => aft 91 2 5 L [] o := Rcv (c := 109) (As := [.int a1]) (S' := []) (pc' := 5) 8 rfl hO
theorem e91_5 {L : Lo} {S : List Value} {h : Hp} {v : Nat} : Run 91 5 (some (.ref v) :: L) S h = Run 91 6 (some (.ref v) :: L) (.ref v :: S) h := Rg rfl
theorem e91_6 {L : Lo} {S : List Value} {h : Hp} {x0 x1 : Option Value} {v : Int32} : Run 91 6 (x0 :: x1 :: some (.int v) :: L) S h = Run 91 7 (x0 :: x1 :: some (.int v) :: L) (.int v :: S) h := Rg rfl
set_option maxRecDepth 100000 in
theorem e91_7 {L : Lo} {h : Hp} {a1 : Int32} {a0 : Nat} (hO : isO h a0 8 = true) : Run 91 7 L [.int a1, .ref a0] h = (Run 109 0 [some (.ref a0), some (.int a1)] [] h).bind fun o => aft 91 7 10 L [] o := Rcv (c := 109) (As := [.int a1]) (S' := []) (pc' := 10) 8 rfl hO
theorem e91_10 {L : Lo} {S : List Value} {h : Hp} {v : Nat} : Run 91 10 (some (.ref v) :: L) S h = Run 91 11 (some (.ref v) :: L) (.ref v :: S) h := Rg rfl
theorem e91_11 {L : Lo} {S : List Value} {h : Hp} {b : Nat} : Run 91 11 L (.ref b :: S) h = (gf h 8 0 b).bind fun v => Run 91 14 L (v :: S) h := Rb rfl fun _ => rfl
theorem e91_14 {L : Lo} {S : List Value} {h : Hp} {x0 : Option Value} {v : Int32} : Run 91 14 (x0 :: some (.int v) :: L) S h = Run 91 15 (x0 :: some (.int v) :: L) (.int v :: S) h := Rg rfl
theorem e91_15 {L : Lo} {S : List Value} {h : Hp} {x0 x1 : Option Value} {v : Int32} : Run 91 15 (x0 :: x1 :: some (.int v) :: L) S h = Run 91 16 (x0 :: x1 :: some (.int v) :: L) (.int v :: S) h := Rg rfl
set_option maxRecDepth 100000 in
theorem e91_16 {L : Lo} {h : Hp} {a2 : Int32} {a1 : Int32} {a0 : Nat} (hO : isO h a0 6 = true) : Run 91 16 L [.int a2, .int a1, .ref a0] h = (Run 55 0 [some (.ref a0), some (.int a1), some (.int a2), none, none, none] [] h).bind fun o => aft 91 16 19 L [] o := Rcv (c := 55) (As := [.int a1, .int a2]) (S' := []) (pc' := 19) 6 rfl hO
theorem e91_19 {L : Lo} {h : Hp} {x : Int32} : Run 91 19 L [.int x] h = some (.inl (some (.int x)), h) := Rd (if_pos (c := narrow .int (.int x) = .int x) rfl)
theorem e92_0 {L : Lo} {S : List Value} {h : Hp} {v : Nat} : Run 92 0 (some (.ref v) :: L) S h = Run 92 1 (some (.ref v) :: L) (.ref v :: S) h := Rg rfl
theorem e92_1 {L : Lo} {S : List Value} {h : Hp} {x0 : Option Value} {v : Int32} : Run 92 1 (x0 :: some (.int v) :: L) S h = Run 92 2 (x0 :: some (.int v) :: L) (.int v :: S) h := Rg rfl
set_option maxRecDepth 100000 in
theorem e92_2 {L : Lo} {h : Hp} {a1 : Int32} {a0 : Nat} (hO : isO h a0 8 = true) : Run 92 2 L [.int a1, .ref a0] h = (Run 110 0 [some (.ref a0), some (.int a1)] [] h).bind fun o => aft 92 2 5 L [] o := Rcv (c := 110) (As := [.int a1]) (S' := []) (pc' := 5) 8 rfl hO
theorem e92_5 {L : Lo} {S : List Value} {h : Hp} {v : Nat} : Run 92 5 (some (.ref v) :: L) S h = Run 92 6 (some (.ref v) :: L) (.ref v :: S) h := Rg rfl
theorem e92_6 {L : Lo} {S : List Value} {h : Hp} {b : Nat} : Run 92 6 L (.ref b :: S) h = (gf h 8 0 b).bind fun v => Run 92 9 L (v :: S) h := Rb rfl fun _ => rfl
theorem e92_9 {L : Lo} {S : List Value} {h : Hp} {b : Nat} : Run 92 9 L (.ref b :: S) h = (gf h 6 7 b).bind fun v => Run 92 12 L (v :: S) h := Rb rfl fun _ => rfl
theorem e92_12 {L : Lo} {S : List Value} {h : Hp} {x0 : Option Value} {v : Int32} : Run 92 12 (x0 :: some (.int v) :: L) S h = Run 92 13 (x0 :: some (.int v) :: L) (.int v :: S) h := Rg rfl
theorem e92_13 {L : Lo} {S : List Value} {h : Hp} {i : Int32} {b : Nat} : Run 92 13 L (.int i :: .ref b :: S) h = (gaR h b i).bind fun v => Run 92 14 L (va_rf v :: S) h := Rb rfl fun _ => rfl
theorem e92_14 {L : Lo} {S : List Value} {h : Hp} {x0 x1 : Option Value} {y : Option Value} {v : Nat} : Run 92 14 (x0 :: x1 :: y :: L) (.ref v :: S) h = Run 92 15 (x0 :: ck x1 :: some (.ref v) :: L) S h := Rg rfl
theorem e92_15 {L : Lo} {S : List Value} {h : Hp} {v : Nat} : Run 92 15 (some (.ref v) :: L) S h = Run 92 16 (some (.ref v) :: L) (.ref v :: S) h := Rg rfl
theorem e92_16 {L : Lo} {S : List Value} {h : Hp} {b : Nat} : Run 92 16 L (.ref b :: S) h = (gf h 8 2 b).bind fun v => Run 92 19 L (v :: S) h := Rb rfl fun _ => rfl
theorem e92_19 {L : Lo} {S : List Value} {h : Hp} {x0 x1 : Option Value} {v : Nat} : Run 92 19 (x0 :: x1 :: some (.ref v) :: L) S h = Run 92 20 (x0 :: x1 :: some (.ref v) :: L) (.ref v :: S) h := Rg rfl
set_option maxRecDepth 100000 in
theorem e92_20 {L : Lo} {h : Hp} {a1 : Nat} {a0 : Nat} (hO : isO h a0 3 = true) : Run 92 20 L [.ref a1, .ref a0] h = (Run 20 0 [some (.ref a0), some (.ref a1)] [] h).bind fun o => aft 92 20 23 L [] o := Rcv (c := 20) (As := [.ref a1]) (S' := []) (pc' := 23) 3 rfl hO
theorem e92_23 {L : Lo} {S : List Value} {h : Hp} {x : Int32} : Run 92 23 L (.int x :: S) h = if x = 0 then Run 92 26 L S h else Run 92 36 L S h := RbrN (c := cnd .ne x 0 = true) (off := 13) rfl rfl cnd_ne
theorem e92_26 {L : Lo} {h : Hp} : Run 92 26 L [] h = some (.inr "java/lang/IllegalStateException", hbump h) := Rd rfl
theorem e92_36 {L : Lo} {S : List Value} {h : Hp} {v : Nat} : Run 92 36 (some (.ref v) :: L) S h = Run 92 37 (some (.ref v) :: L) (.ref v :: S) h := Rg rfl
theorem e92_37 {L : Lo} {S : List Value} {h : Hp} {b : Nat} : Run 92 37 L (.ref b :: S) h = (gf h 8 1 b).bind fun v => Run 92 40 L (v :: S) h := Rb rfl fun _ => rfl
theorem e92_40 {L : Lo} {S : List Value} {h : Hp} {v : Nat} : Run 92 40 (some (.ref v) :: L) S h = Run 92 41 (some (.ref v) :: L) (.ref v :: S) h := Rg rfl
theorem e92_41 {L : Lo} {S : List Value} {h : Hp} {b : Nat} : Run 92 41 L (.ref b :: S) h = (gf h 8 0 b).bind fun v => Run 92 44 L (v :: S) h := Rb rfl fun _ => rfl
set_option maxRecDepth 100000 in
theorem e92_44 {L : Lo} {h : Hp} {a1 : Nat} {a0 : Nat} (hO : isO h a0 4 = true) : Run 92 44 L [.ref a1, .ref a0] h = (Run 30 0 [some (.ref a0), some (.ref a1)] [] h).bind fun o => aft 92 44 47 L [] o := Rcv (c := 30) (As := [.ref a1]) (S' := []) (pc' := 47) 4 rfl hO
theorem e92_47 {L : Lo} {S : List Value} {h : Hp} {v : Nat} : Run 92 47 (some (.ref v) :: L) S h = Run 92 48 (some (.ref v) :: L) (.ref v :: S) h := Rg rfl
theorem e92_48 {L : Lo} {S : List Value} {h : Hp} {b : Nat} : Run 92 48 L (.ref b :: S) h = (gf h 8 2 b).bind fun v => Run 92 51 L (v :: S) h := Rb rfl fun _ => rfl
theorem e92_51 {L : Lo} {S : List Value} {h : Hp} {x0 x1 : Option Value} {v : Nat} : Run 92 51 (x0 :: x1 :: some (.ref v) :: L) S h = Run 92 52 (x0 :: x1 :: some (.ref v) :: L) (.ref v :: S) h := Rg rfl
set_option maxRecDepth 100000 in
theorem e92_52 {L : Lo} {h : Hp} {a1 : Nat} {a0 : Nat} (hO : isO h a0 3 = true) : Run 92 52 L [.ref a1, .ref a0] h = (Run 21 0 [some (.ref a0), some (.ref a1)] [] h).bind fun o => aft 92 52 55 L [] o := Rcv (c := 21) (As := [.ref a1]) (S' := []) (pc' := 55) 3 rfl hO
theorem e92_55 {L : Lo} {S : List Value} {h : Hp} {x0 x1 : Option Value} {v : Nat} : Run 92 55 (x0 :: x1 :: some (.ref v) :: L) S h = Run 92 56 (x0 :: x1 :: some (.ref v) :: L) (.ref v :: S) h := Rg rfl
theorem e92_56 {L : Lo} {S : List Value} {h : Hp} {b : Nat} : Run 92 56 L (.ref b :: S) h = (gf h 7 1 b).bind fun v => Run 92 59 L (v :: S) h := Rb rfl fun _ => rfl
theorem e92_59 {L : Lo} {h : Hp} {x : Int32} : Run 92 59 L [.int x] h = some (.inl (some (.int x)), h) := Rd (if_pos (c := narrow .int (.int x) = .int x) rfl)
theorem e93_0 {L : Lo} {S : List Value} {h : Hp} {v : Nat} : Run 93 0 (some (.ref v) :: L) S h = Run 93 1 (some (.ref v) :: L) (.ref v :: S) h := Rg rfl
theorem e93_1 {L : Lo} {S : List Value} {h : Hp} {x0 : Option Value} {v : Int32} : Run 93 1 (x0 :: some (.int v) :: L) S h = Run 93 2 (x0 :: some (.int v) :: L) (.int v :: S) h := Rg rfl
set_option maxRecDepth 100000 in
theorem e93_2 {L : Lo} {h : Hp} {a1 : Int32} {a0 : Nat} (hO : isO h a0 8 = true) : Run 93 2 L [.int a1, .ref a0] h = (Run 110 0 [some (.ref a0), some (.int a1)] [] h).bind fun o => aft 93 2 5 L [] o := Rcv (c := 110) (As := [.int a1]) (S' := []) (pc' := 5) 8 rfl hO
theorem e93_5 {L : Lo} {S : List Value} {h : Hp} {v : Nat} : Run 93 5 (some (.ref v) :: L) S h = Run 93 6 (some (.ref v) :: L) (.ref v :: S) h := Rg rfl
theorem e93_6 {L : Lo} {S : List Value} {h : Hp} {b : Nat} : Run 93 6 L (.ref b :: S) h = (gf h 8 0 b).bind fun v => Run 93 9 L (v :: S) h := Rb rfl fun _ => rfl
theorem e93_9 {L : Lo} {S : List Value} {h : Hp} {b : Nat} : Run 93 9 L (.ref b :: S) h = (gf h 6 7 b).bind fun v => Run 93 12 L (v :: S) h := Rb rfl fun _ => rfl
theorem e93_12 {L : Lo} {S : List Value} {h : Hp} {x0 : Option Value} {v : Int32} : Run 93 12 (x0 :: some (.int v) :: L) S h = Run 93 13 (x0 :: some (.int v) :: L) (.int v :: S) h := Rg rfl
theorem e93_13 {L : Lo} {S : List Value} {h : Hp} {i : Int32} {b : Nat} : Run 93 13 L (.int i :: .ref b :: S) h = (gaR h b i).bind fun v => Run 93 14 L (va_rf v :: S) h := Rb rfl fun _ => rfl
theorem e93_14 {L : Lo} {S : List Value} {h : Hp} {x0 x1 x2 : Option Value} {y : Option Value} {v : Nat} : Run 93 14 (x0 :: x1 :: x2 :: y :: L) (.ref v :: S) h = Run 93 15 (x0 :: x1 :: ck x2 :: some (.ref v) :: L) S h := Rg rfl
theorem e93_15 {L : Lo} {S : List Value} {h : Hp} {v : Nat} : Run 93 15 (some (.ref v) :: L) S h = Run 93 16 (some (.ref v) :: L) (.ref v :: S) h := Rg rfl
theorem e93_16 {L : Lo} {S : List Value} {h : Hp} {b : Nat} : Run 93 16 L (.ref b :: S) h = (gf h 8 2 b).bind fun v => Run 93 19 L (v :: S) h := Rb rfl fun _ => rfl
theorem e93_19 {L : Lo} {S : List Value} {h : Hp} {x0 x1 x2 : Option Value} {v : Nat} : Run 93 19 (x0 :: x1 :: x2 :: some (.ref v) :: L) S h = Run 93 20 (x0 :: x1 :: x2 :: some (.ref v) :: L) (.ref v :: S) h := Rg rfl
theorem e93_20 {L : Lo} {S : List Value} {h : Hp} {x0 x1 : Option Value} {v : Int32} : Run 93 20 (x0 :: x1 :: some (.int v) :: L) S h = Run 93 21 (x0 :: x1 :: some (.int v) :: L) (.int v :: S) h := Rg rfl
set_option maxRecDepth 100000 in
theorem e93_21 {L : Lo} {h : Hp} {a2 : Int32} {a1 : Nat} {a0 : Nat} (hO : isO h a0 3 = true) : Run 93 21 L [.int a2, .ref a1, .ref a0] h = (Run 22 0 [some (.ref a0), some (.ref a1), some (.int a2)] [] h).bind fun o => aft 93 21 24 L [] o := Rcv (c := 22) (As := [.ref a1, .int a2]) (S' := []) (pc' := 24) 3 rfl hO
theorem e93_24 {L : Lo} {S : List Value} {h : Hp} {x : Int32} : Run 93 24 L (.int x :: S) h = if x = 0 then Run 93 27 L S h else Run 93 37 L S h := RbrN (c := cnd .ne x 0 = true) (off := 13) rfl rfl cnd_ne
theorem e93_27 {L : Lo} {h : Hp} : Run 93 27 L [] h = some (.inr "java/lang/IllegalStateException", hbump h) := Rd rfl
theorem e93_37 {L : Lo} {S : List Value} {h : Hp} {v : Nat} : Run 93 37 (some (.ref v) :: L) S h = Run 93 38 (some (.ref v) :: L) (.ref v :: S) h := Rg rfl
theorem e93_38 {L : Lo} {S : List Value} {h : Hp} {b : Nat} : Run 93 38 L (.ref b :: S) h = (gf h 8 1 b).bind fun v => Run 93 41 L (v :: S) h := Rb rfl fun _ => rfl
theorem e93_41 {L : Lo} {S : List Value} {h : Hp} {v : Nat} : Run 93 41 (some (.ref v) :: L) S h = Run 93 42 (some (.ref v) :: L) (.ref v :: S) h := Rg rfl
theorem e93_42 {L : Lo} {S : List Value} {h : Hp} {b : Nat} : Run 93 42 L (.ref b :: S) h = (gf h 8 0 b).bind fun v => Run 93 45 L (v :: S) h := Rb rfl fun _ => rfl
set_option maxRecDepth 100000 in
theorem e93_45 {L : Lo} {h : Hp} {a1 : Nat} {a0 : Nat} (hO : isO h a0 4 = true) : Run 93 45 L [.ref a1, .ref a0] h = (Run 30 0 [some (.ref a0), some (.ref a1)] [] h).bind fun o => aft 93 45 48 L [] o := Rcv (c := 30) (As := [.ref a1]) (S' := []) (pc' := 48) 4 rfl hO
theorem e93_48 {L : Lo} {S : List Value} {h : Hp} {x0 x1 x2 : Option Value} {v : Nat} : Run 93 48 (x0 :: x1 :: x2 :: some (.ref v) :: L) S h = Run 93 49 (x0 :: x1 :: x2 :: some (.ref v) :: L) (.ref v :: S) h := Rg rfl
theorem e93_49 {L : Lo} {S : List Value} {h : Hp} {x0 x1 : Option Value} {v : Int32} : Run 93 49 (x0 :: x1 :: some (.int v) :: L) S h = Run 93 50 (x0 :: x1 :: some (.int v) :: L) (.int v :: S) h := Rg rfl
set_option maxRecDepth 100000 in
theorem e93_50 {L : Lo} {h : Hp} {a1 : Int32} {a0 : Nat} (hO : isO h a0 7 = true) : Run 93 50 L [.int a1, .ref a0] h = (Run 77 0 [some (.ref a0), some (.int a1)] [] h).bind fun o => aft 93 50 53 L [] o := Rcv (c := 77) (As := [.int a1]) (S' := []) (pc' := 53) 7 rfl hO
theorem e93_53 {L : Lo} {S : List Value} {h : Hp} {x0 x1 x2 : Option Value} {v : Nat} : Run 93 53 (x0 :: x1 :: x2 :: some (.ref v) :: L) S h = Run 93 54 (x0 :: x1 :: x2 :: some (.ref v) :: L) (.ref v :: S) h := Rg rfl
theorem e93_54 {L : Lo} {S : List Value} {h : Hp} {b : Nat} : Run 93 54 L (.ref b :: S) h = (gf h 7 2 b).bind fun v => Run 93 57 L (v :: S) h := Rb rfl fun _ => rfl
theorem e93_57 {L : Lo} {h : Hp} {x : Int32} : Run 93 57 L [.int x] h = some (.inl (some (.int x)), h) := Rd (if_pos (c := narrow .int (.int x) = .int x) rfl)
theorem e94_0 {L : Lo} {S : List Value} {h : Hp} {v : Nat} : Run 94 0 (some (.ref v) :: L) S h = Run 94 1 (some (.ref v) :: L) (.ref v :: S) h := Rg rfl
theorem e94_1 {L : Lo} {S : List Value} {h : Hp} {b : Nat} : Run 94 1 L (.ref b :: S) h = (gf h 8 1 b).bind fun v => Run 94 4 L (v :: S) h := Rb rfl fun _ => rfl
theorem e94_4 {L : Lo} {S : List Value} {h : Hp} {v : Nat} : Run 94 4 (some (.ref v) :: L) S h = Run 94 5 (some (.ref v) :: L) (.ref v :: S) h := Rg rfl
theorem e94_5 {L : Lo} {S : List Value} {h : Hp} {b : Nat} : Run 94 5 L (.ref b :: S) h = (gf h 8 0 b).bind fun v => Run 94 8 L (v :: S) h := Rb rfl fun _ => rfl
set_option maxRecDepth 100000 in
theorem e94_8 {L : Lo} {h : Hp} {a1 : Nat} {a0 : Nat} (hO : isO h a0 4 = true) : Run 94 8 L [.ref a1, .ref a0] h = (Run 30 0 [some (.ref a0), some (.ref a1)] [] h).bind fun o => aft 94 8 11 L [] o := Rcv (c := 30) (As := [.ref a1]) (S' := []) (pc' := 11) 4 rfl hO
theorem e94_11 {L : Lo} {S : List Value} {h : Hp} {v : Nat} : Run 94 11 (some (.ref v) :: L) S h = Run 94 12 (some (.ref v) :: L) (.ref v :: S) h := Rg rfl
theorem e94_12 {L : Lo} {S : List Value} {h : Hp} {b : Nat} : Run 94 12 L (.ref b :: S) h = (gf h 8 2 b).bind fun v => Run 94 15 L (v :: S) h := Rb rfl fun _ => rfl
set_option maxRecDepth 100000 in
theorem e94_15 {L : Lo} {h : Hp} {a0 : Nat} (hO : isO h a0 3 = true) : Run 94 15 L [.ref a0] h = (Run 24 0 [some (.ref a0), none, none] [] h).bind fun o => aft 94 15 18 L [] o := Rcv (c := 24) (As := []) (S' := []) (pc' := 18) 3 rfl hO
theorem e94_18 {L : Lo} {h : Hp} {x : Int32} : Run 94 18 L [.int x] h = some (.inl (some (.int x)), h) := Rd (if_pos (c := narrow .int (.int x) = .int x) rfl)
theorem e95_0 {L : Lo} {S : List Value} {h : Hp} {v : Nat} : Run 95 0 (some (.ref v) :: L) S h = Run 95 1 (some (.ref v) :: L) (.ref v :: S) h := Rg rfl
theorem e95_1 {L : Lo} {S : List Value} {h : Hp} {x0 : Option Value} {v : Int32} : Run 95 1 (x0 :: some (.int v) :: L) S h = Run 95 2 (x0 :: some (.int v) :: L) (.int v :: S) h := Rg rfl
theorem e95_2 {L : Lo} {S : List Value} {h : Hp} {x0 x1 x2 : Option Value} {v : Int32} : Run 95 2 (x0 :: x1 :: x2 :: some (.int v) :: L) S h = Run 95 3 (x0 :: x1 :: x2 :: some (.int v) :: L) (.int v :: S) h := Rg rfl
set_option maxRecDepth 100000 in
theorem e95_3 {L : Lo} {h : Hp} {a2 : Int32} {a1 : Int32} {a0 : Nat} (hO : isO h a0 8 = true) : Run 95 3 L [.int a2, .int a1, .ref a0] h = (Run 111 0 [some (.ref a0), some (.int a1), some (.int a2)] [] h).bind fun o => aft 95 3 6 L [] o := Rcv (c := 111) (As := [.int a1, .int a2]) (S' := []) (pc' := 6) 8 rfl hO
theorem e95_6 {L : Lo} {S : List Value} {h : Hp} {v : Nat} : Run 95 6 (some (.ref v) :: L) S h = Run 95 7 (some (.ref v) :: L) (.ref v :: S) h := Rg rfl
theorem e95_7 {L : Lo} {S : List Value} {h : Hp} {b : Nat} : Run 95 7 L (.ref b :: S) h = (gf h 8 3 b).bind fun v => Run 95 10 L (v :: S) h := Rb rfl fun _ => rfl
theorem e95_10 {L : Lo} {S : List Value} {h : Hp} {v : Nat} : Run 95 10 (some (.ref v) :: L) S h = Run 95 11 (some (.ref v) :: L) (.ref v :: S) h := Rg rfl
theorem e95_11 {L : Lo} {S : List Value} {h : Hp} {b : Nat} : Run 95 11 L (.ref b :: S) h = (gf h 8 0 b).bind fun v => Run 95 14 L (v :: S) h := Rb rfl fun _ => rfl
theorem e95_14 {L : Lo} {S : List Value} {h : Hp} {b : Nat} : Run 95 14 L (.ref b :: S) h = (gf h 6 7 b).bind fun v => Run 95 17 L (v :: S) h := Rb rfl fun _ => rfl
theorem e95_17 {L : Lo} {S : List Value} {h : Hp} {x0 : Option Value} {v : Int32} : Run 95 17 (x0 :: some (.int v) :: L) S h = Run 95 18 (x0 :: some (.int v) :: L) (.int v :: S) h := Rg rfl
theorem e95_18 {L : Lo} {S : List Value} {h : Hp} {i : Int32} {b : Nat} : Run 95 18 L (.int i :: .ref b :: S) h = (gaR h b i).bind fun v => Run 95 19 L (va_rf v :: S) h := Rb rfl fun _ => rfl
theorem e95_19 {L : Lo} {S : List Value} {h : Hp} {x0 x1 : Option Value} {v : Int32} : Run 95 19 (x0 :: x1 :: some (.int v) :: L) S h = Run 95 20 (x0 :: x1 :: some (.int v) :: L) (.int v :: S) h := Rg rfl
theorem e95_20 {L : Lo} {S : List Value} {h : Hp} {v : Nat} : Run 95 20 (some (.ref v) :: L) S h = Run 95 21 (some (.ref v) :: L) (.ref v :: S) h := Rg rfl
theorem e95_21 {L : Lo} {S : List Value} {h : Hp} {b : Nat} : Run 95 21 L (.ref b :: S) h = (gf h 8 0 b).bind fun v => Run 95 24 L (v :: S) h := Rb rfl fun _ => rfl
theorem e95_24 {L : Lo} {S : List Value} {h : Hp} {b : Nat} : Run 95 24 L (.ref b :: S) h = (gf h 6 7 b).bind fun v => Run 95 27 L (v :: S) h := Rb rfl fun _ => rfl
theorem e95_27 {L : Lo} {S : List Value} {h : Hp} {x0 x1 x2 : Option Value} {v : Int32} : Run 95 27 (x0 :: x1 :: x2 :: some (.int v) :: L) S h = Run 95 28 (x0 :: x1 :: x2 :: some (.int v) :: L) (.int v :: S) h := Rg rfl
theorem e95_28 {L : Lo} {S : List Value} {h : Hp} {i : Int32} {b : Nat} : Run 95 28 L (.int i :: .ref b :: S) h = (gaR h b i).bind fun v => Run 95 29 L (va_rf v :: S) h := Rb rfl fun _ => rfl
set_option maxRecDepth 100000 in
theorem e95_29 {L : Lo} {h : Hp} {a3 : Nat} {a2 : Int32} {a1 : Nat} {a0 : Nat} (hO : isO h a0 2 = true) : Run 95 29 L [.ref a3, .int a2, .ref a1, .ref a0] h = (Run 14 0 [some (.ref a0), some (.ref a1), some (.int a2), some (.ref a3), none, none, none] [] h).bind fun o => aft 95 29 32 L [] o := Rcv (c := 14) (As := [.ref a1, .int a2, .ref a3]) (S' := []) (pc' := 32) 2 rfl hO
theorem e95_32 {L : Lo} {h : Hp} {x : Int32} : Run 95 32 L [.int x] h = some (.inl (some (.int x)), h) := Rd (if_pos (c := narrow .int (.int x) = .int x) rfl)
theorem e96_0 {L : Lo} {S : List Value} {h : Hp} {v : Nat} : Run 96 0 (some (.ref v) :: L) S h = Run 96 1 (some (.ref v) :: L) (.ref v :: S) h := Rg rfl
theorem e96_1 {L : Lo} {S : List Value} {h : Hp} {x0 : Option Value} {v : Int32} : Run 96 1 (x0 :: some (.int v) :: L) S h = Run 96 2 (x0 :: some (.int v) :: L) (.int v :: S) h := Rg rfl
theorem e96_2 {L : Lo} {S : List Value} {h : Hp} {x0 x1 x2 : Option Value} {v : Int32} : Run 96 2 (x0 :: x1 :: x2 :: some (.int v) :: L) S h = Run 96 3 (x0 :: x1 :: x2 :: some (.int v) :: L) (.int v :: S) h := Rg rfl
set_option maxRecDepth 100000 in
theorem e96_3 {L : Lo} {h : Hp} {a2 : Int32} {a1 : Int32} {a0 : Nat} (hO : isO h a0 8 = true) : Run 96 3 L [.int a2, .int a1, .ref a0] h = (Run 111 0 [some (.ref a0), some (.int a1), some (.int a2)] [] h).bind fun o => aft 96 3 6 L [] o := Rcv (c := 111) (As := [.int a1, .int a2]) (S' := []) (pc' := 6) 8 rfl hO
theorem e96_6 {L : Lo} {S : List Value} {h : Hp} {x0 x1 x2 x3 : Option Value} {v : Int32} : Run 96 6 (x0 :: x1 :: x2 :: x3 :: some (.int v) :: L) S h = Run 96 8 (x0 :: x1 :: x2 :: x3 :: some (.int v) :: L) (.int v :: S) h := Rg rfl
theorem e96_8 {L : Lo} {S : List Value} {h : Hp} {x : Int32} : Run 96 8 L (.int x :: S) h = if x < 0 then Run 96 17 L S h else Run 96 11 L S h := Rbr (c := cnd .lt x 0 = true) (off := 9) rfl rfl cnd_lt
theorem e96_11 {L : Lo} {S : List Value} {h : Hp} {x0 x1 x2 x3 : Option Value} {v : Int32} : Run 96 11 (x0 :: x1 :: x2 :: x3 :: some (.int v) :: L) S h = Run 96 13 (x0 :: x1 :: x2 :: x3 :: some (.int v) :: L) (.int v :: S) h := Rg rfl
theorem e96_13 {L : Lo} {S : List Value} {h : Hp} : Run 96 13 L S h = Run 96 14 L (.int 2 :: S) h := Rg rfl
theorem e96_14 {L : Lo} {S : List Value} {h : Hp} {x z : Int32} : Run 96 14 L (.int z :: .int x :: S) h = if x ≤ z then Run 96 27 L S h else Run 96 17 L S h := Rbr (c := cnd .le x z = true) (off := 13) rfl rfl cnd_le
theorem e96_17 {L : Lo} {h : Hp} : Run 96 17 L [] h = some (.inr "java/lang/IllegalArgumentException", hbump h) := Rd rfl
theorem e96_27 {L : Lo} {S : List Value} {h : Hp} {v : Nat} : Run 96 27 (some (.ref v) :: L) S h = Run 96 28 (some (.ref v) :: L) (.ref v :: S) h := Rg rfl
theorem e96_28 {L : Lo} {S : List Value} {h : Hp} {b : Nat} : Run 96 28 L (.ref b :: S) h = (gf h 8 0 b).bind fun v => Run 96 31 L (v :: S) h := Rb rfl fun _ => rfl
theorem e96_31 {L : Lo} {S : List Value} {h : Hp} {b : Nat} : Run 96 31 L (.ref b :: S) h = (gf h 6 7 b).bind fun v => Run 96 34 L (v :: S) h := Rb rfl fun _ => rfl
theorem e96_34 {L : Lo} {S : List Value} {h : Hp} {x0 : Option Value} {v : Int32} : Run 96 34 (x0 :: some (.int v) :: L) S h = Run 96 35 (x0 :: some (.int v) :: L) (.int v :: S) h := Rg rfl
theorem e96_35 {L : Lo} {S : List Value} {h : Hp} {i : Int32} {b : Nat} : Run 96 35 L (.int i :: .ref b :: S) h = (gaR h b i).bind fun v => Run 96 36 L (va_rf v :: S) h := Rb rfl fun _ => rfl
theorem e96_36 {L : Lo} {S : List Value} {h : Hp} {x0 x1 x2 x3 x4 : Option Value} {y : Option Value} {v : Nat} : Run 96 36 (x0 :: x1 :: x2 :: x3 :: x4 :: y :: L) (.ref v :: S) h = Run 96 38 (x0 :: x1 :: x2 :: x3 :: ck x4 :: some (.ref v) :: L) S h := Rg rfl
theorem e96_38 {L : Lo} {S : List Value} {h : Hp} {v : Nat} : Run 96 38 (some (.ref v) :: L) S h = Run 96 39 (some (.ref v) :: L) (.ref v :: S) h := Rg rfl
theorem e96_39 {L : Lo} {S : List Value} {h : Hp} {b : Nat} : Run 96 39 L (.ref b :: S) h = (gf h 8 0 b).bind fun v => Run 96 42 L (v :: S) h := Rb rfl fun _ => rfl
theorem e96_42 {L : Lo} {S : List Value} {h : Hp} {b : Nat} : Run 96 42 L (.ref b :: S) h = (gf h 6 7 b).bind fun v => Run 96 45 L (v :: S) h := Rb rfl fun _ => rfl
theorem e96_45 {L : Lo} {S : List Value} {h : Hp} {x0 x1 x2 : Option Value} {v : Int32} : Run 96 45 (x0 :: x1 :: x2 :: some (.int v) :: L) S h = Run 96 46 (x0 :: x1 :: x2 :: some (.int v) :: L) (.int v :: S) h := Rg rfl
theorem e96_46 {L : Lo} {S : List Value} {h : Hp} {i : Int32} {b : Nat} : Run 96 46 L (.int i :: .ref b :: S) h = (gaR h b i).bind fun v => Run 96 47 L (va_rf v :: S) h := Rb rfl fun _ => rfl
theorem e96_47 {L : Lo} {S : List Value} {h : Hp} {x0 x1 x2 x3 x4 x5 : Option Value} {y : Option Value} {v : Nat} : Run 96 47 (x0 :: x1 :: x2 :: x3 :: x4 :: x5 :: y :: L) (.ref v :: S) h = Run 96 49 (x0 :: x1 :: x2 :: x3 :: x4 :: ck x5 :: some (.ref v) :: L) S h := Rg rfl
theorem e96_49 {L : Lo} {S : List Value} {h : Hp} {v : Nat} : Run 96 49 (some (.ref v) :: L) S h = Run 96 50 (some (.ref v) :: L) (.ref v :: S) h := Rg rfl
theorem e96_50 {L : Lo} {S : List Value} {h : Hp} {b : Nat} : Run 96 50 L (.ref b :: S) h = (gf h 8 3 b).bind fun v => Run 96 53 L (v :: S) h := Rb rfl fun _ => rfl
theorem e96_53 {L : Lo} {S : List Value} {h : Hp} {x0 x1 x2 x3 x4 : Option Value} {v : Nat} : Run 96 53 (x0 :: x1 :: x2 :: x3 :: x4 :: some (.ref v) :: L) S h = Run 96 55 (x0 :: x1 :: x2 :: x3 :: x4 :: some (.ref v) :: L) (.ref v :: S) h := Rg rfl
theorem e96_55 {L : Lo} {S : List Value} {h : Hp} {x0 x1 : Option Value} {v : Int32} : Run 96 55 (x0 :: x1 :: some (.int v) :: L) S h = Run 96 56 (x0 :: x1 :: some (.int v) :: L) (.int v :: S) h := Rg rfl
theorem e96_56 {L : Lo} {S : List Value} {h : Hp} {x0 x1 x2 x3 x4 x5 : Option Value} {v : Nat} : Run 96 56 (x0 :: x1 :: x2 :: x3 :: x4 :: x5 :: some (.ref v) :: L) S h = Run 96 58 (x0 :: x1 :: x2 :: x3 :: x4 :: x5 :: some (.ref v) :: L) (.ref v :: S) h := Rg rfl
theorem e96_58 {L : Lo} {S : List Value} {h : Hp} {x0 x1 x2 x3 : Option Value} {v : Int32} : Run 96 58 (x0 :: x1 :: x2 :: x3 :: some (.int v) :: L) S h = Run 96 60 (x0 :: x1 :: x2 :: x3 :: some (.int v) :: L) (.int v :: S) h := Rg rfl
set_option maxRecDepth 100000 in
theorem e96_60 {L : Lo} {h : Hp} {a4 : Int32} {a3 : Nat} {a2 : Int32} {a1 : Nat} {a0 : Nat} (hO : isO h a0 2 = true) : Run 96 60 L [.int a4, .ref a3, .int a2, .ref a1, .ref a0] h = (Run 15 0 [some (.ref a0), some (.ref a1), some (.int a2), some (.ref a3), some (.int a4)] [] h).bind fun o => aft 96 60 63 L [] o := Rcv (c := 15) (As := [.ref a1, .int a2, .ref a3, .int a4]) (S' := []) (pc' := 63) 2 rfl hO
theorem e96_63 {L : Lo} {S : List Value} {h : Hp} {x : Int32} : Run 96 63 L (.int x :: S) h = if x = 0 then Run 96 66 L S h else Run 96 76 L S h := RbrN (c := cnd .ne x 0 = true) (off := 13) rfl rfl cnd_ne
theorem e96_66 {L : Lo} {h : Hp} : Run 96 66 L [] h = some (.inr "java/lang/IllegalStateException", hbump h) := Rd rfl
theorem e96_76 {L : Lo} {S : List Value} {h : Hp} {v : Nat} : Run 96 76 (some (.ref v) :: L) S h = Run 96 77 (some (.ref v) :: L) (.ref v :: S) h := Rg rfl
theorem e96_77 {L : Lo} {S : List Value} {h : Hp} {b : Nat} : Run 96 77 L (.ref b :: S) h = (gf h 8 1 b).bind fun v => Run 96 80 L (v :: S) h := Rb rfl fun _ => rfl
theorem e96_80 {L : Lo} {S : List Value} {h : Hp} {v : Nat} : Run 96 80 (some (.ref v) :: L) S h = Run 96 81 (some (.ref v) :: L) (.ref v :: S) h := Rg rfl
theorem e96_81 {L : Lo} {S : List Value} {h : Hp} {b : Nat} : Run 96 81 L (.ref b :: S) h = (gf h 8 0 b).bind fun v => Run 96 84 L (v :: S) h := Rb rfl fun _ => rfl
set_option maxRecDepth 100000 in
theorem e96_84 {L : Lo} {h : Hp} {a1 : Nat} {a0 : Nat} (hO : isO h a0 4 = true) : Run 96 84 L [.ref a1, .ref a0] h = (Run 30 0 [some (.ref a0), some (.ref a1)] [] h).bind fun o => aft 96 84 87 L [] o := Rcv (c := 30) (As := [.ref a1]) (S' := []) (pc' := 87) 4 rfl hO
theorem e96_87 {L : Lo} {S : List Value} {h : Hp} {v : Nat} : Run 96 87 (some (.ref v) :: L) S h = Run 96 88 (some (.ref v) :: L) (.ref v :: S) h := Rg rfl
theorem e96_88 {L : Lo} {S : List Value} {h : Hp} {b : Nat} : Run 96 88 L (.ref b :: S) h = (gf h 8 3 b).bind fun v => Run 96 91 L (v :: S) h := Rb rfl fun _ => rfl
theorem e96_91 {L : Lo} {S : List Value} {h : Hp} {x0 x1 x2 x3 x4 : Option Value} {v : Nat} : Run 96 91 (x0 :: x1 :: x2 :: x3 :: x4 :: some (.ref v) :: L) S h = Run 96 93 (x0 :: x1 :: x2 :: x3 :: x4 :: some (.ref v) :: L) (.ref v :: S) h := Rg rfl
theorem e96_93 {L : Lo} {S : List Value} {h : Hp} {x0 x1 : Option Value} {v : Int32} : Run 96 93 (x0 :: x1 :: some (.int v) :: L) S h = Run 96 94 (x0 :: x1 :: some (.int v) :: L) (.int v :: S) h := Rg rfl
theorem e96_94 {L : Lo} {S : List Value} {h : Hp} {x0 x1 x2 x3 x4 x5 : Option Value} {v : Nat} : Run 96 94 (x0 :: x1 :: x2 :: x3 :: x4 :: x5 :: some (.ref v) :: L) S h = Run 96 96 (x0 :: x1 :: x2 :: x3 :: x4 :: x5 :: some (.ref v) :: L) (.ref v :: S) h := Rg rfl
theorem e96_96 {L : Lo} {S : List Value} {h : Hp} {x0 x1 x2 x3 : Option Value} {v : Int32} : Run 96 96 (x0 :: x1 :: x2 :: x3 :: some (.int v) :: L) S h = Run 96 98 (x0 :: x1 :: x2 :: x3 :: some (.int v) :: L) (.int v :: S) h := Rg rfl
set_option maxRecDepth 100000 in
theorem e96_98 {L : Lo} {h : Hp} {a4 : Int32} {a3 : Nat} {a2 : Int32} {a1 : Nat} {a0 : Nat} (hO : isO h a0 2 = true) : Run 96 98 L [.int a4, .ref a3, .int a2, .ref a1, .ref a0] h = (Run 16 0 [some (.ref a0), some (.ref a1), some (.int a2), some (.ref a3), some (.int a4), none, none] [] h).bind fun o => aft 96 98 101 L [] o := Rcv (c := 16) (As := [.ref a1, .int a2, .ref a3, .int a4]) (S' := []) (pc' := 101) 2 rfl hO
theorem e96_101 {L : Lo} {h : Hp} {x : Int32} : Run 96 101 L [.int x] h = some (.inl (some (.int x)), h) := Rd (if_pos (c := narrow .int (.int x) = .int x) rfl)
theorem e97_0 {L : Lo} {S : List Value} {h : Hp} {v : Nat} : Run 97 0 (some (.ref v) :: L) S h = Run 97 1 (some (.ref v) :: L) (.ref v :: S) h := Rg rfl
theorem e97_1 {L : Lo} {S : List Value} {h : Hp} {x0 : Option Value} {v : Int32} : Run 97 1 (x0 :: some (.int v) :: L) S h = Run 97 2 (x0 :: some (.int v) :: L) (.int v :: S) h := Rg rfl
theorem e97_2 {L : Lo} {S : List Value} {h : Hp} {x0 x1 : Option Value} {v : Int32} : Run 97 2 (x0 :: x1 :: some (.int v) :: L) S h = Run 97 3 (x0 :: x1 :: some (.int v) :: L) (.int v :: S) h := Rg rfl
set_option maxRecDepth 100000 in
theorem e97_3 {L : Lo} {h : Hp} {a2 : Int32} {a1 : Int32} {a0 : Nat} (hO : isO h a0 8 = true) : Run 97 3 L [.int a2, .int a1, .ref a0] h = (Run 111 0 [some (.ref a0), some (.int a1), some (.int a2)] [] h).bind fun o => aft 97 3 6 L [] o := Rcv (c := 111) (As := [.int a1, .int a2]) (S' := []) (pc' := 6) 8 rfl hO
theorem e97_6 {L : Lo} {S : List Value} {h : Hp} {v : Nat} : Run 97 6 (some (.ref v) :: L) S h = Run 97 7 (some (.ref v) :: L) (.ref v :: S) h := Rg rfl
theorem e97_7 {L : Lo} {S : List Value} {h : Hp} {b : Nat} : Run 97 7 L (.ref b :: S) h = (gf h 8 4 b).bind fun v => Run 97 10 L (v :: S) h := Rb rfl fun _ => rfl
theorem e97_10 {L : Lo} {S : List Value} {h : Hp} {v : Nat} : Run 97 10 (some (.ref v) :: L) S h = Run 97 11 (some (.ref v) :: L) (.ref v :: S) h := Rg rfl
theorem e97_11 {L : Lo} {S : List Value} {h : Hp} {b : Nat} : Run 97 11 L (.ref b :: S) h = (gf h 8 0 b).bind fun v => Run 97 14 L (v :: S) h := Rb rfl fun _ => rfl
theorem e97_14 {L : Lo} {S : List Value} {h : Hp} {b : Nat} : Run 97 14 L (.ref b :: S) h = (gf h 6 7 b).bind fun v => Run 97 17 L (v :: S) h := Rb rfl fun _ => rfl
theorem e97_17 {L : Lo} {S : List Value} {h : Hp} {x0 : Option Value} {v : Int32} : Run 97 17 (x0 :: some (.int v) :: L) S h = Run 97 18 (x0 :: some (.int v) :: L) (.int v :: S) h := Rg rfl
theorem e97_18 {L : Lo} {S : List Value} {h : Hp} {i : Int32} {b : Nat} : Run 97 18 L (.int i :: .ref b :: S) h = (gaR h b i).bind fun v => Run 97 19 L (va_rf v :: S) h := Rb rfl fun _ => rfl
theorem e97_19 {L : Lo} {S : List Value} {h : Hp} {v : Nat} : Run 97 19 (some (.ref v) :: L) S h = Run 97 20 (some (.ref v) :: L) (.ref v :: S) h := Rg rfl
theorem e97_20 {L : Lo} {S : List Value} {h : Hp} {b : Nat} : Run 97 20 L (.ref b :: S) h = (gf h 8 0 b).bind fun v => Run 97 23 L (v :: S) h := Rb rfl fun _ => rfl
theorem e97_23 {L : Lo} {S : List Value} {h : Hp} {b : Nat} : Run 97 23 L (.ref b :: S) h = (gf h 6 7 b).bind fun v => Run 97 26 L (v :: S) h := Rb rfl fun _ => rfl
theorem e97_26 {L : Lo} {S : List Value} {h : Hp} {x0 x1 : Option Value} {v : Int32} : Run 97 26 (x0 :: x1 :: some (.int v) :: L) S h = Run 97 27 (x0 :: x1 :: some (.int v) :: L) (.int v :: S) h := Rg rfl
theorem e97_27 {L : Lo} {S : List Value} {h : Hp} {i : Int32} {b : Nat} : Run 97 27 L (.int i :: .ref b :: S) h = (gaR h b i).bind fun v => Run 97 28 L (va_rf v :: S) h := Rb rfl fun _ => rfl
set_option maxRecDepth 100000 in
theorem e97_28 {L : Lo} {h : Hp} {a2 : Nat} {a1 : Nat} {a0 : Nat} (hO : isO h a0 1 = true) : Run 97 28 L [.ref a2, .ref a1, .ref a0] h = (Run 7 0 [some (.ref a0), some (.ref a1), some (.ref a2)] [] h).bind fun o => aft 97 28 31 L [] o := Rcv (c := 7) (As := [.ref a1, .ref a2]) (S' := []) (pc' := 31) 1 rfl hO
theorem e97_31 {L : Lo} {S : List Value} {h : Hp} {x : Int32} : Run 97 31 L (.int x :: S) h = if x = 0 then Run 97 34 L S h else Run 97 44 L S h := RbrN (c := cnd .ne x 0 = true) (off := 13) rfl rfl cnd_ne
theorem e97_34 {L : Lo} {h : Hp} : Run 97 34 L [] h = some (.inr "java/lang/IllegalStateException", hbump h) := Rd rfl
theorem e97_44 {L : Lo} {S : List Value} {h : Hp} {v : Nat} : Run 97 44 (some (.ref v) :: L) S h = Run 97 45 (some (.ref v) :: L) (.ref v :: S) h := Rg rfl
theorem e97_45 {L : Lo} {S : List Value} {h : Hp} {b : Nat} : Run 97 45 L (.ref b :: S) h = (gf h 8 1 b).bind fun v => Run 97 48 L (v :: S) h := Rb rfl fun _ => rfl
theorem e97_48 {L : Lo} {S : List Value} {h : Hp} {v : Nat} : Run 97 48 (some (.ref v) :: L) S h = Run 97 49 (some (.ref v) :: L) (.ref v :: S) h := Rg rfl
theorem e97_49 {L : Lo} {S : List Value} {h : Hp} {b : Nat} : Run 97 49 L (.ref b :: S) h = (gf h 8 0 b).bind fun v => Run 97 52 L (v :: S) h := Rb rfl fun _ => rfl
set_option maxRecDepth 100000 in
theorem e97_52 {L : Lo} {h : Hp} {a1 : Nat} {a0 : Nat} (hO : isO h a0 4 = true) : Run 97 52 L [.ref a1, .ref a0] h = (Run 30 0 [some (.ref a0), some (.ref a1)] [] h).bind fun o => aft 97 52 55 L [] o := Rcv (c := 30) (As := [.ref a1]) (S' := []) (pc' := 55) 4 rfl hO
theorem e97_55 {L : Lo} {S : List Value} {h : Hp} {v : Nat} : Run 97 55 (some (.ref v) :: L) S h = Run 97 56 (some (.ref v) :: L) (.ref v :: S) h := Rg rfl
theorem e97_56 {L : Lo} {S : List Value} {h : Hp} {b : Nat} : Run 97 56 L (.ref b :: S) h = (gf h 8 0 b).bind fun v => Run 97 59 L (v :: S) h := Rb rfl fun _ => rfl
theorem e97_59 {L : Lo} {S : List Value} {h : Hp} {b : Nat} : Run 97 59 L (.ref b :: S) h = (gf h 6 7 b).bind fun v => Run 97 62 L (v :: S) h := Rb rfl fun _ => rfl
theorem e97_62 {L : Lo} {S : List Value} {h : Hp} {x0 : Option Value} {v : Int32} : Run 97 62 (x0 :: some (.int v) :: L) S h = Run 97 63 (x0 :: some (.int v) :: L) (.int v :: S) h := Rg rfl
theorem e97_63 {L : Lo} {S : List Value} {h : Hp} {i : Int32} {b : Nat} : Run 97 63 L (.int i :: .ref b :: S) h = (gaR h b i).bind fun v => Run 97 64 L (va_rf v :: S) h := Rb rfl fun _ => rfl
theorem e97_64 {L : Lo} {S : List Value} {h : Hp} {x0 x1 : Option Value} {v : Int32} : Run 97 64 (x0 :: x1 :: some (.int v) :: L) S h = Run 97 65 (x0 :: x1 :: some (.int v) :: L) (.int v :: S) h := Rg rfl
theorem e97_65 {L : Lo} {S : List Value} {h : Hp} {b : Nat} {v : Value} : Run 97 65 L (v :: .ref b :: S) h = (pf h 7 12 b v).bind fun h1 => Run 97 68 L S h1 := Rb rfl fun _ => rfl
theorem e97_68 {L : Lo} {S : List Value} {h : Hp} {v : Nat} : Run 97 68 (some (.ref v) :: L) S h = Run 97 69 (some (.ref v) :: L) (.ref v :: S) h := Rg rfl
theorem e97_69 {L : Lo} {S : List Value} {h : Hp} {b : Nat} : Run 97 69 L (.ref b :: S) h = (gf h 8 0 b).bind fun v => Run 97 72 L (v :: S) h := Rb rfl fun _ => rfl
theorem e97_72 {L : Lo} {S : List Value} {h : Hp} {b : Nat} : Run 97 72 L (.ref b :: S) h = (gf h 6 7 b).bind fun v => Run 97 75 L (v :: S) h := Rb rfl fun _ => rfl
theorem e97_75 {L : Lo} {S : List Value} {h : Hp} {x0 x1 : Option Value} {v : Int32} : Run 97 75 (x0 :: x1 :: some (.int v) :: L) S h = Run 97 76 (x0 :: x1 :: some (.int v) :: L) (.int v :: S) h := Rg rfl
theorem e97_76 {L : Lo} {S : List Value} {h : Hp} {i : Int32} {b : Nat} : Run 97 76 L (.int i :: .ref b :: S) h = (gaR h b i).bind fun v => Run 97 77 L (va_rf v :: S) h := Rb rfl fun _ => rfl
theorem e97_77 {L : Lo} {S : List Value} {h : Hp} {x0 : Option Value} {v : Int32} : Run 97 77 (x0 :: some (.int v) :: L) S h = Run 97 78 (x0 :: some (.int v) :: L) (.int v :: S) h := Rg rfl
theorem e97_78 {L : Lo} {S : List Value} {h : Hp} {b : Nat} {v : Value} : Run 97 78 L (v :: .ref b :: S) h = (pf h 7 12 b v).bind fun h1 => Run 97 81 L S h1 := Rb rfl fun _ => rfl
theorem e97_81 {L : Lo} {S : List Value} {h : Hp} {v : Nat} : Run 97 81 (some (.ref v) :: L) S h = Run 97 82 (some (.ref v) :: L) (.ref v :: S) h := Rg rfl
theorem e97_82 {L : Lo} {S : List Value} {h : Hp} {b : Nat} : Run 97 82 L (.ref b :: S) h = (gf h 8 0 b).bind fun v => Run 97 85 L (v :: S) h := Rb rfl fun _ => rfl
set_option maxRecDepth 100000 in
theorem e97_85 {L : Lo} {h : Hp} {a0 : Nat} (hO : isO h a0 6 = true) : Run 97 85 L [.ref a0] h = (Run 63 0 [some (.ref a0), none, none] [] h).bind fun o => aft 97 85 88 L [] o := Rcv (c := 63) (As := []) (S' := []) (pc' := 88) 6 rfl hO
theorem e97_88 {L : Lo} {h : Hp} {x : Int32} : Run 97 88 L [.int x] h = some (.inl (some (.int x)), h) := Rd (if_pos (c := narrow .int (.int x) = .int x) rfl)
theorem e98_0 {L : Lo} {S : List Value} {h : Hp} {v : Nat} : Run 98 0 (some (.ref v) :: L) S h = Run 98 1 (some (.ref v) :: L) (.ref v :: S) h := Rg rfl
theorem e98_1 {L : Lo} {S : List Value} {h : Hp} {x0 : Option Value} {v : Int32} : Run 98 1 (x0 :: some (.int v) :: L) S h = Run 98 2 (x0 :: some (.int v) :: L) (.int v :: S) h := Rg rfl
set_option maxRecDepth 100000 in
theorem e98_2 {L : Lo} {h : Hp} {a1 : Int32} {a0 : Nat} (hO : isO h a0 8 = true) : Run 98 2 L [.int a1, .ref a0] h = (Run 110 0 [some (.ref a0), some (.int a1)] [] h).bind fun o => aft 98 2 5 L [] o := Rcv (c := 110) (As := [.int a1]) (S' := []) (pc' := 5) 8 rfl hO
theorem e98_5 {L : Lo} {S : List Value} {h : Hp} {v : Nat} : Run 98 5 (some (.ref v) :: L) S h = Run 98 6 (some (.ref v) :: L) (.ref v :: S) h := Rg rfl
theorem e98_6 {L : Lo} {S : List Value} {h : Hp} {b : Nat} : Run 98 6 L (.ref b :: S) h = (gf h 8 0 b).bind fun v => Run 98 9 L (v :: S) h := Rb rfl fun _ => rfl
theorem e98_9 {L : Lo} {S : List Value} {h : Hp} {b : Nat} : Run 98 9 L (.ref b :: S) h = (gf h 6 7 b).bind fun v => Run 98 12 L (v :: S) h := Rb rfl fun _ => rfl
theorem e98_12 {L : Lo} {S : List Value} {h : Hp} {x0 : Option Value} {v : Int32} : Run 98 12 (x0 :: some (.int v) :: L) S h = Run 98 13 (x0 :: some (.int v) :: L) (.int v :: S) h := Rg rfl
theorem e98_13 {L : Lo} {S : List Value} {h : Hp} {i : Int32} {b : Nat} : Run 98 13 L (.int i :: .ref b :: S) h = (gaR h b i).bind fun v => Run 98 14 L (va_rf v :: S) h := Rb rfl fun _ => rfl
theorem e98_14 {L : Lo} {S : List Value} {h : Hp} {b : Nat} : Run 98 14 L (.ref b :: S) h = (gf h 7 12 b).bind fun v => Run 98 17 L (v :: S) h := Rb rfl fun _ => rfl
theorem e98_17 {L : Lo} {S : List Value} {h : Hp} {x0 x1 : Option Value} {y : Option Value} {v : Int32} : Run 98 17 (x0 :: x1 :: y :: L) (.int v :: S) h = Run 98 18 (x0 :: ck x1 :: some (.int v) :: L) S h := Rg rfl
theorem e98_18 {L : Lo} {S : List Value} {h : Hp} {x0 x1 : Option Value} {v : Int32} : Run 98 18 (x0 :: x1 :: some (.int v) :: L) S h = Run 98 19 (x0 :: x1 :: some (.int v) :: L) (.int v :: S) h := Rg rfl
theorem e98_19 {L : Lo} {S : List Value} {h : Hp} : Run 98 19 L S h = Run 98 20 L (.int (-1) :: S) h := Rg rfl
theorem e98_20 {L : Lo} {S : List Value} {h : Hp} {x z : Int32} : Run 98 20 L (.int z :: .int x :: S) h = if x = z then Run 98 23 L S h else Run 98 33 L S h := RbrN (c := cnd .ne x z = true) (off := 13) rfl rfl cnd_ne
theorem e98_23 {L : Lo} {h : Hp} : Run 98 23 L [] h = some (.inr "java/lang/IllegalStateException", hbump h) := Rd rfl
theorem e98_33 {L : Lo} {S : List Value} {h : Hp} {v : Nat} : Run 98 33 (some (.ref v) :: L) S h = Run 98 34 (some (.ref v) :: L) (.ref v :: S) h := Rg rfl
theorem e98_34 {L : Lo} {S : List Value} {h : Hp} {b : Nat} : Run 98 34 L (.ref b :: S) h = (gf h 8 1 b).bind fun v => Run 98 37 L (v :: S) h := Rb rfl fun _ => rfl
theorem e98_37 {L : Lo} {S : List Value} {h : Hp} {v : Nat} : Run 98 37 (some (.ref v) :: L) S h = Run 98 38 (some (.ref v) :: L) (.ref v :: S) h := Rg rfl
theorem e98_38 {L : Lo} {S : List Value} {h : Hp} {b : Nat} : Run 98 38 L (.ref b :: S) h = (gf h 8 0 b).bind fun v => Run 98 41 L (v :: S) h := Rb rfl fun _ => rfl
set_option maxRecDepth 100000 in
theorem e98_41 {L : Lo} {h : Hp} {a1 : Nat} {a0 : Nat} (hO : isO h a0 4 = true) : Run 98 41 L [.ref a1, .ref a0] h = (Run 30 0 [some (.ref a0), some (.ref a1)] [] h).bind fun o => aft 98 41 44 L [] o := Rcv (c := 30) (As := [.ref a1]) (S' := []) (pc' := 44) 4 rfl hO
theorem e98_44 {L : Lo} {S : List Value} {h : Hp} {v : Nat} : Run 98 44 (some (.ref v) :: L) S h = Run 98 45 (some (.ref v) :: L) (.ref v :: S) h := Rg rfl
theorem e98_45 {L : Lo} {S : List Value} {h : Hp} {b : Nat} : Run 98 45 L (.ref b :: S) h = (gf h 8 0 b).bind fun v => Run 98 48 L (v :: S) h := Rb rfl fun _ => rfl
theorem e98_48 {L : Lo} {S : List Value} {h : Hp} {v : Nat} : Run 98 48 (some (.ref v) :: L) S h = Run 98 49 (some (.ref v) :: L) (.ref v :: S) h := Rg rfl
theorem e98_49 {L : Lo} {S : List Value} {h : Hp} {b : Nat} : Run 98 49 L (.ref b :: S) h = (gf h 8 0 b).bind fun v => Run 98 52 L (v :: S) h := Rb rfl fun _ => rfl
theorem e98_52 {L : Lo} {S : List Value} {h : Hp} {b : Nat} : Run 98 52 L (.ref b :: S) h = (gf h 6 7 b).bind fun v => Run 98 55 L (v :: S) h := Rb rfl fun _ => rfl
theorem e98_55 {L : Lo} {S : List Value} {h : Hp} {x0 : Option Value} {v : Int32} : Run 98 55 (x0 :: some (.int v) :: L) S h = Run 98 56 (x0 :: some (.int v) :: L) (.int v :: S) h := Rg rfl
theorem e98_56 {L : Lo} {S : List Value} {h : Hp} {i : Int32} {b : Nat} : Run 98 56 L (.int i :: .ref b :: S) h = (gaR h b i).bind fun v => Run 98 57 L (va_rf v :: S) h := Rb rfl fun _ => rfl
set_option maxRecDepth 100000 in
theorem e98_57 {L : Lo} {h : Hp} {a1 : Nat} {a0 : Nat} (hO : isO h a0 6 = true) : Run 98 57 L [.ref a1, .ref a0] h = (Run 62 0 [some (.ref a0), some (.ref a1)] [] h).bind fun o => aft 98 57 60 L [] o := Rcv (c := 62) (As := [.ref a1]) (S' := []) (pc' := 60) 6 rfl hO
theorem e98_60 {L : Lo} {S : List Value} {h : Hp} {x0 x1 : Option Value} {v : Int32} : Run 98 60 (x0 :: x1 :: some (.int v) :: L) S h = Run 98 61 (x0 :: x1 :: some (.int v) :: L) (.int v :: S) h := Rg rfl
theorem e98_61 {L : Lo} {h : Hp} {x : Int32} : Run 98 61 L [.int x] h = some (.inl (some (.int x)), h) := Rd (if_pos (c := narrow .int (.int x) = .int x) rfl)
theorem e99_0 {L : Lo} {S : List Value} {h : Hp} {v : Nat} : Run 99 0 (some (.ref v) :: L) S h = Run 99 1 (some (.ref v) :: L) (.ref v :: S) h := Rg rfl
theorem e99_1 {L : Lo} {S : List Value} {h : Hp} {x0 : Option Value} {v : Int32} : Run 99 1 (x0 :: some (.int v) :: L) S h = Run 99 2 (x0 :: some (.int v) :: L) (.int v :: S) h := Rg rfl
set_option maxRecDepth 100000 in
theorem e99_2 {L : Lo} {h : Hp} {a1 : Int32} {a0 : Nat} (hO : isO h a0 8 = true) : Run 99 2 L [.int a1, .ref a0] h = (Run 110 0 [some (.ref a0), some (.int a1)] [] h).bind fun o => aft 99 2 5 L [] o := Rcv (c := 110) (As := [.int a1]) (S' := []) (pc' := 5) 8 rfl hO
theorem e99_5 {L : Lo} {S : List Value} {h : Hp} {v : Nat} : Run 99 5 (some (.ref v) :: L) S h = Run 99 6 (some (.ref v) :: L) (.ref v :: S) h := Rg rfl
theorem e99_6 {L : Lo} {S : List Value} {h : Hp} {b : Nat} : Run 99 6 L (.ref b :: S) h = (gf h 8 0 b).bind fun v => Run 99 9 L (v :: S) h := Rb rfl fun _ => rfl
theorem e99_9 {L : Lo} {S : List Value} {h : Hp} {b : Nat} : Run 99 9 L (.ref b :: S) h = (gf h 6 7 b).bind fun v => Run 99 12 L (v :: S) h := Rb rfl fun _ => rfl
theorem e99_12 {L : Lo} {S : List Value} {h : Hp} {x0 : Option Value} {v : Int32} : Run 99 12 (x0 :: some (.int v) :: L) S h = Run 99 13 (x0 :: some (.int v) :: L) (.int v :: S) h := Rg rfl
theorem e99_13 {L : Lo} {S : List Value} {h : Hp} {i : Int32} {b : Nat} : Run 99 13 L (.int i :: .ref b :: S) h = (gaR h b i).bind fun v => Run 99 14 L (va_rf v :: S) h := Rb rfl fun _ => rfl
theorem e99_14 {L : Lo} {S : List Value} {h : Hp} {x0 x1 : Option Value} {y : Option Value} {v : Nat} : Run 99 14 (x0 :: x1 :: y :: L) (.ref v :: S) h = Run 99 15 (x0 :: ck x1 :: some (.ref v) :: L) S h := Rg rfl
theorem e99_15 {L : Lo} {S : List Value} {h : Hp} {v : Nat} : Run 99 15 (some (.ref v) :: L) S h = Run 99 16 (some (.ref v) :: L) (.ref v :: S) h := Rg rfl
theorem e99_16 {L : Lo} {S : List Value} {h : Hp} {b : Nat} : Run 99 16 L (.ref b :: S) h = (gf h 8 0 b).bind fun v => Run 99 19 L (v :: S) h := Rb rfl fun _ => rfl
theorem e99_19 {L : Lo} {S : List Value} {h : Hp} {x0 x1 : Option Value} {v : Nat} : Run 99 19 (x0 :: x1 :: some (.ref v) :: L) S h = Run 99 20 (x0 :: x1 :: some (.ref v) :: L) (.ref v :: S) h := Rg rfl
theorem e99_20 {L : Lo} {S : List Value} {h : Hp} {b : Nat} : Run 99 20 L (.ref b :: S) h = (gf h 7 12 b).bind fun v => Run 99 23 L (v :: S) h := Rb rfl fun _ => rfl
set_option maxRecDepth 100000 in
theorem e99_23 {L : Lo} {h : Hp} {a1 : Int32} {a0 : Nat} (hO : isO h a0 6 = true) : Run 99 23 L [.int a1, .ref a0] h = (Run 45 0 [some (.ref a0), some (.int a1)] [] h).bind fun o => aft 99 23 26 L [] o := Rcv (c := 45) (As := [.int a1]) (S' := []) (pc' := 26) 6 rfl hO
theorem e99_26 {L : Lo} {S : List Value} {h : Hp} {x : Int32} : Run 99 26 L (.int x :: S) h = if x = 0 then Run 99 36 L S h else Run 99 29 L S h := Rbr (c := cnd .eq x 0 = true) (off := 10) rfl rfl cnd_eq
theorem e99_29 {L : Lo} {S : List Value} {h : Hp} {x0 x1 : Option Value} {v : Nat} : Run 99 29 (x0 :: x1 :: some (.ref v) :: L) S h = Run 99 30 (x0 :: x1 :: some (.ref v) :: L) (.ref v :: S) h := Rg rfl
theorem e99_30 {L : Lo} {S : List Value} {h : Hp} {b : Nat} : Run 99 30 L (.ref b :: S) h = (gf h 7 13 b).bind fun v => Run 99 33 L (v :: S) h := Rb rfl fun _ => rfl
theorem e99_33 {L : Lo} {S : List Value} {h : Hp} {x : Int32} : Run 99 33 L (.int x :: S) h = if x = 0 then Run 99 46 L S h else Run 99 36 L S h := Rbr (c := cnd .eq x 0 = true) (off := 13) rfl rfl cnd_eq
theorem e99_36 {L : Lo} {h : Hp} : Run 99 36 L [] h = some (.inr "java/lang/IllegalStateException", hbump h) := Rd rfl
theorem e99_46 {L : Lo} {S : List Value} {h : Hp} {v : Nat} : Run 99 46 (some (.ref v) :: L) S h = Run 99 47 (some (.ref v) :: L) (.ref v :: S) h := Rg rfl
theorem e99_47 {L : Lo} {S : List Value} {h : Hp} {b : Nat} : Run 99 47 L (.ref b :: S) h = (gf h 8 1 b).bind fun v => Run 99 50 L (v :: S) h := Rb rfl fun _ => rfl
theorem e99_50 {L : Lo} {S : List Value} {h : Hp} {v : Nat} : Run 99 50 (some (.ref v) :: L) S h = Run 99 51 (some (.ref v) :: L) (.ref v :: S) h := Rg rfl
theorem e99_51 {L : Lo} {S : List Value} {h : Hp} {b : Nat} : Run 99 51 L (.ref b :: S) h = (gf h 8 0 b).bind fun v => Run 99 54 L (v :: S) h := Rb rfl fun _ => rfl
set_option maxRecDepth 100000 in
theorem e99_54 {L : Lo} {h : Hp} {a1 : Nat} {a0 : Nat} (hO : isO h a0 4 = true) : Run 99 54 L [.ref a1, .ref a0] h = (Run 30 0 [some (.ref a0), some (.ref a1)] [] h).bind fun o => aft 99 54 57 L [] o := Rcv (c := 30) (As := [.ref a1]) (S' := []) (pc' := 57) 4 rfl hO
theorem e99_57 {L : Lo} {S : List Value} {h : Hp} {v : Nat} : Run 99 57 (some (.ref v) :: L) S h = Run 99 58 (some (.ref v) :: L) (.ref v :: S) h := Rg rfl
theorem e99_58 {L : Lo} {S : List Value} {h : Hp} {b : Nat} : Run 99 58 L (.ref b :: S) h = (gf h 8 4 b).bind fun v => Run 99 61 L (v :: S) h := Rb rfl fun _ => rfl
theorem e99_61 {L : Lo} {S : List Value} {h : Hp} {x0 x1 : Option Value} {v : Nat} : Run 99 61 (x0 :: x1 :: some (.ref v) :: L) S h = Run 99 62 (x0 :: x1 :: some (.ref v) :: L) (.ref v :: S) h := Rg rfl
theorem e99_62 {L : Lo} {S : List Value} {h : Hp} {v : Nat} : Run 99 62 (some (.ref v) :: L) S h = Run 99 63 (some (.ref v) :: L) (.ref v :: S) h := Rg rfl
theorem e99_63 {L : Lo} {S : List Value} {h : Hp} {b : Nat} : Run 99 63 L (.ref b :: S) h = (gf h 8 0 b).bind fun v => Run 99 66 L (v :: S) h := Rb rfl fun _ => rfl
theorem e99_66 {L : Lo} {S : List Value} {h : Hp} {b : Nat} : Run 99 66 L (.ref b :: S) h = (gf h 6 7 b).bind fun v => Run 99 69 L (v :: S) h := Rb rfl fun _ => rfl
theorem e99_69 {L : Lo} {S : List Value} {h : Hp} {x0 x1 : Option Value} {v : Nat} : Run 99 69 (x0 :: x1 :: some (.ref v) :: L) S h = Run 99 70 (x0 :: x1 :: some (.ref v) :: L) (.ref v :: S) h := Rg rfl
theorem e99_70 {L : Lo} {S : List Value} {h : Hp} {b : Nat} : Run 99 70 L (.ref b :: S) h = (gf h 7 12 b).bind fun v => Run 99 73 L (v :: S) h := Rb rfl fun _ => rfl
theorem e99_73 {L : Lo} {S : List Value} {h : Hp} {i : Int32} {b : Nat} : Run 99 73 L (.int i :: .ref b :: S) h = (gaR h b i).bind fun v => Run 99 74 L (va_rf v :: S) h := Rb rfl fun _ => rfl
set_option maxRecDepth 100000 in
theorem e99_74 {L : Lo} {h : Hp} {a2 : Nat} {a1 : Nat} {a0 : Nat} (hO : isO h a0 1 = true) : Run 99 74 L [.ref a2, .ref a1, .ref a0] h = (Run 8 0 [some (.ref a0), some (.ref a1), some (.ref a2), none, none] [] h).bind fun o => aft 99 74 77 L [] o := Rcv (c := 8) (As := [.ref a1, .ref a2]) (S' := []) (pc' := 77) 1 rfl hO
theorem e99_77 {L : Lo} {S : List Value} {h : Hp} {x : Int32} : Run 99 77 L (.int x :: S) h = if x = 0 then Run 99 84 L S h else Run 99 80 L S h := Rbr (c := cnd .eq x 0 = true) (off := 7) rfl rfl cnd_eq
theorem e99_80 {L : Lo} {S : List Value} {h : Hp} : Run 99 80 L S h = Run 99 81 L (.int 1 :: S) h := Rg rfl
theorem e99_81 {L : Lo} {S : List Value} {h : Hp} : Run 99 81 L S h = Run 99 85 L S h := Rg rfl
theorem e99_84 {L : Lo} {S : List Value} {h : Hp} : Run 99 84 L S h = Run 99 85 L (.int 0 :: S) h := Rg rfl
theorem e99_85 {L : Lo} {h : Hp} {x : Int32} : Run 99 85 L [.int x] h = some (.inl (some (.int x)), h) := Rd (if_pos (c := narrow .int (.int x) = .int x) rfl)
theorem e100_0 {L : Lo} {S : List Value} {h : Hp} {v : Nat} : Run 100 0 (some (.ref v) :: L) S h = Run 100 1 (some (.ref v) :: L) (.ref v :: S) h := Rg rfl
theorem e100_1 {L : Lo} {S : List Value} {h : Hp} {x0 : Option Value} {v : Int32} : Run 100 1 (x0 :: some (.int v) :: L) S h = Run 100 2 (x0 :: some (.int v) :: L) (.int v :: S) h := Rg rfl
set_option maxRecDepth 100000 in
theorem e100_2 {L : Lo} {h : Hp} {a1 : Int32} {a0 : Nat} (hO : isO h a0 8 = true) : Run 100 2 L [.int a1, .ref a0] h = (Run 110 0 [some (.ref a0), some (.int a1)] [] h).bind fun o => aft 100 2 5 L [] o := Rcv (c := 110) (As := [.int a1]) (S' := []) (pc' := 5) 8 rfl hO
theorem e100_5 {L : Lo} {S : List Value} {h : Hp} {v : Nat} : Run 100 5 (some (.ref v) :: L) S h = Run 100 6 (some (.ref v) :: L) (.ref v :: S) h := Rg rfl
theorem e100_6 {L : Lo} {S : List Value} {h : Hp} {b : Nat} : Run 100 6 L (.ref b :: S) h = (gf h 8 5 b).bind fun v => Run 100 9 L (v :: S) h := Rb rfl fun _ => rfl
theorem e100_9 {L : Lo} {S : List Value} {h : Hp} {v : Nat} : Run 100 9 (some (.ref v) :: L) S h = Run 100 10 (some (.ref v) :: L) (.ref v :: S) h := Rg rfl
theorem e100_10 {L : Lo} {S : List Value} {h : Hp} {b : Nat} : Run 100 10 L (.ref b :: S) h = (gf h 8 0 b).bind fun v => Run 100 13 L (v :: S) h := Rb rfl fun _ => rfl
theorem e100_13 {L : Lo} {S : List Value} {h : Hp} {b : Nat} : Run 100 13 L (.ref b :: S) h = (gf h 6 7 b).bind fun v => Run 100 16 L (v :: S) h := Rb rfl fun _ => rfl
theorem e100_16 {L : Lo} {S : List Value} {h : Hp} {x0 : Option Value} {v : Int32} : Run 100 16 (x0 :: some (.int v) :: L) S h = Run 100 17 (x0 :: some (.int v) :: L) (.int v :: S) h := Rg rfl
theorem e100_17 {L : Lo} {S : List Value} {h : Hp} {i : Int32} {b : Nat} : Run 100 17 L (.int i :: .ref b :: S) h = (gaR h b i).bind fun v => Run 100 18 L (va_rf v :: S) h := Rb rfl fun _ => rfl
set_option maxRecDepth 100000 in
theorem e100_18 {L : Lo} {h : Hp} {a1 : Nat} {a0 : Nat} (hO : isO h a0 0 = true) : Run 100 18 L [.ref a1, .ref a0] h = (Run 1 0 [some (.ref a0), some (.ref a1)] [] h).bind fun o => aft 100 18 21 L [] o := Rcv (c := 1) (As := [.ref a1]) (S' := []) (pc' := 21) 0 rfl hO
theorem e100_21 {L : Lo} {h : Hp} {x : Int32} : Run 100 21 L [.int x] h = some (.inl (some (.int x)), h) := Rd (if_pos (c := narrow .int (.int x) = .int x) rfl)
theorem e101_0 {L : Lo} {S : List Value} {h : Hp} {v : Nat} : Run 101 0 (some (.ref v) :: L) S h = Run 101 1 (some (.ref v) :: L) (.ref v :: S) h := Rg rfl
theorem e101_1 {L : Lo} {S : List Value} {h : Hp} {x0 : Option Value} {v : Int32} : Run 101 1 (x0 :: some (.int v) :: L) S h = Run 101 2 (x0 :: some (.int v) :: L) (.int v :: S) h := Rg rfl
set_option maxRecDepth 100000 in
theorem e101_2 {L : Lo} {h : Hp} {a1 : Int32} {a0 : Nat} (hO : isO h a0 8 = true) : Run 101 2 L [.int a1, .ref a0] h = (Run 110 0 [some (.ref a0), some (.int a1)] [] h).bind fun o => aft 101 2 5 L [] o := Rcv (c := 110) (As := [.int a1]) (S' := []) (pc' := 5) 8 rfl hO
theorem e101_5 {L : Lo} {S : List Value} {h : Hp} {v : Nat} : Run 101 5 (some (.ref v) :: L) S h = Run 101 6 (some (.ref v) :: L) (.ref v :: S) h := Rg rfl
theorem e101_6 {L : Lo} {S : List Value} {h : Hp} {x0 x1 : Option Value} {v : Int32} : Run 101 6 (x0 :: x1 :: some (.int v) :: L) S h = Run 101 7 (x0 :: x1 :: some (.int v) :: L) (.int v :: S) h := Rg rfl
set_option maxRecDepth 100000 in
theorem e101_7 {L : Lo} {h : Hp} {a1 : Int32} {a0 : Nat} (hO : isO h a0 8 = true) : Run 101 7 L [.int a1, .ref a0] h = (Run 109 0 [some (.ref a0), some (.int a1)] [] h).bind fun o => aft 101 7 10 L [] o := Rcv (c := 109) (As := [.int a1]) (S' := []) (pc' := 10) 8 rfl hO
theorem e101_10 {L : Lo} {S : List Value} {h : Hp} {v : Nat} : Run 101 10 (some (.ref v) :: L) S h = Run 101 11 (some (.ref v) :: L) (.ref v :: S) h := Rg rfl
theorem e101_11 {L : Lo} {S : List Value} {h : Hp} {b : Nat} : Run 101 11 L (.ref b :: S) h = (gf h 8 5 b).bind fun v => Run 101 14 L (v :: S) h := Rb rfl fun _ => rfl
theorem e101_14 {L : Lo} {S : List Value} {h : Hp} {v : Nat} : Run 101 14 (some (.ref v) :: L) S h = Run 101 15 (some (.ref v) :: L) (.ref v :: S) h := Rg rfl
theorem e101_15 {L : Lo} {S : List Value} {h : Hp} {b : Nat} : Run 101 15 L (.ref b :: S) h = (gf h 8 0 b).bind fun v => Run 101 18 L (v :: S) h := Rb rfl fun _ => rfl
theorem e101_18 {L : Lo} {S : List Value} {h : Hp} {b : Nat} : Run 101 18 L (.ref b :: S) h = (gf h 6 7 b).bind fun v => Run 101 21 L (v :: S) h := Rb rfl fun _ => rfl
theorem e101_21 {L : Lo} {S : List Value} {h : Hp} {x0 : Option Value} {v : Int32} : Run 101 21 (x0 :: some (.int v) :: L) S h = Run 101 22 (x0 :: some (.int v) :: L) (.int v :: S) h := Rg rfl
theorem e101_22 {L : Lo} {S : List Value} {h : Hp} {i : Int32} {b : Nat} : Run 101 22 L (.int i :: .ref b :: S) h = (gaR h b i).bind fun v => Run 101 23 L (va_rf v :: S) h := Rb rfl fun _ => rfl
theorem e101_23 {L : Lo} {S : List Value} {h : Hp} {x0 x1 : Option Value} {v : Int32} : Run 101 23 (x0 :: x1 :: some (.int v) :: L) S h = Run 101 24 (x0 :: x1 :: some (.int v) :: L) (.int v :: S) h := Rg rfl
set_option maxRecDepth 100000 in
theorem e101_24 {L : Lo} {h : Hp} {a2 : Int32} {a1 : Nat} {a0 : Nat} (hO : isO h a0 0 = true) : Run 101 24 L [.int a2, .ref a1, .ref a0] h = (Run 2 0 [some (.ref a0), some (.ref a1), some (.int a2)] [] h).bind fun o => aft 101 24 27 L [] o := Rcv (c := 2) (As := [.ref a1, .int a2]) (S' := []) (pc' := 27) 0 rfl hO
theorem e101_27 {L : Lo} {h : Hp} {x : Int32} : Run 101 27 L [.int x] h = some (.inl (some (.int x)), h) := Rd (if_pos (c := narrow .int (.int x) = .int x) rfl)
theorem e102_0 {L : Lo} {S : List Value} {h : Hp} {v : Nat} : Run 102 0 (some (.ref v) :: L) S h = Run 102 1 (some (.ref v) :: L) (.ref v :: S) h := Rg rfl
theorem e102_1 {L : Lo} {S : List Value} {h : Hp} {x0 : Option Value} {v : Int32} : Run 102 1 (x0 :: some (.int v) :: L) S h = Run 102 2 (x0 :: some (.int v) :: L) (.int v :: S) h := Rg rfl
set_option maxRecDepth 100000 in
theorem e102_2 {L : Lo} {h : Hp} {a1 : Int32} {a0 : Nat} (hO : isO h a0 8 = true) : Run 102 2 L [.int a1, .ref a0] h = (Run 110 0 [some (.ref a0), some (.int a1)] [] h).bind fun o => aft 102 2 5 L [] o := Rcv (c := 110) (As := [.int a1]) (S' := []) (pc' := 5) 8 rfl hO
theorem e102_5 {L : Lo} {S : List Value} {h : Hp} {v : Nat} : Run 102 5 (some (.ref v) :: L) S h = Run 102 6 (some (.ref v) :: L) (.ref v :: S) h := Rg rfl
theorem e102_6 {L : Lo} {S : List Value} {h : Hp} {b : Nat} : Run 102 6 L (.ref b :: S) h = (gf h 8 3 b).bind fun v => Run 102 9 L (v :: S) h := Rb rfl fun _ => rfl
theorem e102_9 {L : Lo} {S : List Value} {h : Hp} {v : Nat} : Run 102 9 (some (.ref v) :: L) S h = Run 102 10 (some (.ref v) :: L) (.ref v :: S) h := Rg rfl
theorem e102_10 {L : Lo} {S : List Value} {h : Hp} {b : Nat} : Run 102 10 L (.ref b :: S) h = (gf h 8 0 b).bind fun v => Run 102 13 L (v :: S) h := Rb rfl fun _ => rfl
theorem e102_13 {L : Lo} {S : List Value} {h : Hp} {b : Nat} : Run 102 13 L (.ref b :: S) h = (gf h 6 7 b).bind fun v => Run 102 16 L (v :: S) h := Rb rfl fun _ => rfl
theorem e102_16 {L : Lo} {S : List Value} {h : Hp} {x0 : Option Value} {v : Int32} : Run 102 16 (x0 :: some (.int v) :: L) S h = Run 102 17 (x0 :: some (.int v) :: L) (.int v :: S) h := Rg rfl
theorem e102_17 {L : Lo} {S : List Value} {h : Hp} {i : Int32} {b : Nat} : Run 102 17 L (.int i :: .ref b :: S) h = (gaR h b i).bind fun v => Run 102 18 L (va_rf v :: S) h := Rb rfl fun _ => rfl
set_option maxRecDepth 100000 in
theorem e102_18 {L : Lo} {h : Hp} {a1 : Nat} {a0 : Nat} (hO : isO h a0 2 = true) : Run 102 18 L [.ref a1, .ref a0] h = (Run 18 0 [some (.ref a0), some (.ref a1), none, none, none, none, none] [] h).bind fun o => aft 102 18 21 L [] o := Rcv (c := 18) (As := [.ref a1]) (S' := []) (pc' := 21) 2 rfl hO
theorem e102_21 {L : Lo} {h : Hp} {x : Int32} : Run 102 21 L [.int x] h = some (.inl (some (.int x)), h) := Rd (if_pos (c := narrow .int (.int x) = .int x) rfl)
theorem e103_0 {L : Lo} {S : List Value} {h : Hp} {v : Nat} : Run 103 0 (some (.ref v) :: L) S h = Run 103 1 (some (.ref v) :: L) (.ref v :: S) h := Rg rfl
theorem e103_1 {L : Lo} {S : List Value} {h : Hp} {x0 : Option Value} {v : Int32} : Run 103 1 (x0 :: some (.int v) :: L) S h = Run 103 2 (x0 :: some (.int v) :: L) (.int v :: S) h := Rg rfl
set_option maxRecDepth 100000 in
theorem e103_2 {L : Lo} {h : Hp} {a1 : Int32} {a0 : Nat} (hO : isO h a0 8 = true) : Run 103 2 L [.int a1, .ref a0] h = (Run 110 0 [some (.ref a0), some (.int a1)] [] h).bind fun o => aft 103 2 5 L [] o := Rcv (c := 110) (As := [.int a1]) (S' := []) (pc' := 5) 8 rfl hO
theorem e103_5 {L : Lo} {S : List Value} {h : Hp} {v : Nat} : Run 103 5 (some (.ref v) :: L) S h = Run 103 6 (some (.ref v) :: L) (.ref v :: S) h := Rg rfl
theorem e103_6 {L : Lo} {S : List Value} {h : Hp} {b : Nat} : Run 103 6 L (.ref b :: S) h = (gf h 8 0 b).bind fun v => Run 103 9 L (v :: S) h := Rb rfl fun _ => rfl
theorem e103_9 {L : Lo} {S : List Value} {h : Hp} {v : Nat} : Run 103 9 (some (.ref v) :: L) S h = Run 103 10 (some (.ref v) :: L) (.ref v :: S) h := Rg rfl
theorem e103_10 {L : Lo} {S : List Value} {h : Hp} {b : Nat} : Run 103 10 L (.ref b :: S) h = (gf h 8 0 b).bind fun v => Run 103 13 L (v :: S) h := Rb rfl fun _ => rfl
theorem e103_13 {L : Lo} {S : List Value} {h : Hp} {b : Nat} : Run 103 13 L (.ref b :: S) h = (gf h 6 7 b).bind fun v => Run 103 16 L (v :: S) h := Rb rfl fun _ => rfl
theorem e103_16 {L : Lo} {S : List Value} {h : Hp} {x0 : Option Value} {v : Int32} : Run 103 16 (x0 :: some (.int v) :: L) S h = Run 103 17 (x0 :: some (.int v) :: L) (.int v :: S) h := Rg rfl
theorem e103_17 {L : Lo} {S : List Value} {h : Hp} {i : Int32} {b : Nat} : Run 103 17 L (.int i :: .ref b :: S) h = (gaR h b i).bind fun v => Run 103 18 L (va_rf v :: S) h := Rb rfl fun _ => rfl
set_option maxRecDepth 100000 in
theorem e103_18 {L : Lo} {h : Hp} {a1 : Nat} {a0 : Nat} (hO : isO h a0 6 = true) : Run 103 18 L [.ref a1, .ref a0] h = (Run 61 0 [some (.ref a0), some (.ref a1), none, none] [] h).bind fun o => aft 103 18 21 L [] o := Rcv (c := 61) (As := [.ref a1]) (S' := []) (pc' := 21) 6 rfl hO
theorem e103_21 {L : Lo} {h : Hp} {x : Int32} : Run 103 21 L [.int x] h = some (.inl (some (.int x)), h) := Rd (if_pos (c := narrow .int (.int x) = .int x) rfl)
theorem e104_0 {L : Lo} {S : List Value} {h : Hp} {x0 : Option Value} {v : Int32} : Run 104 0 (x0 :: some (.int v) :: L) S h = Run 104 1 (x0 :: some (.int v) :: L) (.int v :: S) h := Rg rfl
set_option maxRecDepth 100000 in
theorem e104_1 {L : Lo} {h : Hp} {a0 : Int32} : Run 104 1 L [.int a0] h = (Run 112 0 [some (.int a0)] [] h).bind fun o => aft 104 1 4 L [] o := Rc (c := 112) (As := [.int a0]) (S' := []) (pc' := 4) rfl
theorem e104_4 {L : Lo} {S : List Value} {h : Hp} {x : Int32} : Run 104 4 L (.int x :: S) h = if x = 0 then Run 104 7 L S h else Run 104 17 L S h := RbrN (c := cnd .ne x 0 = true) (off := 13) rfl rfl cnd_ne
theorem e104_7 {L : Lo} {h : Hp} : Run 104 7 L [] h = some (.inr "java/lang/IllegalArgumentException", hbump h) := Rd rfl
theorem e104_17 {L : Lo} {S : List Value} {h : Hp} {v : Nat} : Run 104 17 (some (.ref v) :: L) S h = Run 104 18 (some (.ref v) :: L) (.ref v :: S) h := Rg rfl
theorem e104_18 {L : Lo} {S : List Value} {h : Hp} {b : Nat} : Run 104 18 L (.ref b :: S) h = (gf h 8 0 b).bind fun v => Run 104 21 L (v :: S) h := Rb rfl fun _ => rfl
theorem e104_21 {L : Lo} {S : List Value} {h : Hp} {x0 : Option Value} {v : Int32} : Run 104 21 (x0 :: some (.int v) :: L) S h = Run 104 22 (x0 :: some (.int v) :: L) (.int v :: S) h := Rg rfl
set_option maxRecDepth 100000 in
theorem e104_22 {L : Lo} {h : Hp} {a1 : Int32} {a0 : Nat} (hO : isO h a0 6 = true) : Run 104 22 L [.int a1, .ref a0] h = (Run 65 0 [some (.ref a0), some (.int a1), none, none] [] h).bind fun o => aft 104 22 25 L [] o := Rcv (c := 65) (As := [.int a1]) (S' := []) (pc' := 25) 6 rfl hO
theorem e104_25 {L : Lo} {S : List Value} {h : Hp} {x0 x1 : Option Value} {y : Option Value} {v : Int32} : Run 104 25 (x0 :: x1 :: y :: L) (.int v :: S) h = Run 104 26 (x0 :: ck x1 :: some (.int v) :: L) S h := Rg rfl
theorem e104_26 {L : Lo} {S : List Value} {h : Hp} {x0 x1 : Option Value} {v : Int32} : Run 104 26 (x0 :: x1 :: some (.int v) :: L) S h = Run 104 27 (x0 :: x1 :: some (.int v) :: L) (.int v :: S) h := Rg rfl
theorem e104_27 {L : Lo} {S : List Value} {h : Hp} {v : Nat} : Run 104 27 (some (.ref v) :: L) S h = Run 104 28 (some (.ref v) :: L) (.ref v :: S) h := Rg rfl
theorem e104_28 {L : Lo} {S : List Value} {h : Hp} {b : Nat} : Run 104 28 L (.ref b :: S) h = (gf h 8 0 b).bind fun v => Run 104 31 L (v :: S) h := Rb rfl fun _ => rfl
theorem e104_31 {L : Lo} {S : List Value} {h : Hp} : Run 104 31 L S h = Run 104 32 L (.int 1 :: S) h := Rg rfl
theorem e104_32 {L : Lo} {S : List Value} {h : Hp} {x0 : Option Value} {v : Int32} : Run 104 32 (x0 :: some (.int v) :: L) S h = Run 104 33 (x0 :: some (.int v) :: L) (.int v :: S) h := Rg rfl
theorem e104_33 {L : Lo} {S : List Value} {h : Hp} {x z : Int32} : Run 104 33 L (.int z :: .int x :: S) h = Run 104 34 L (.int (x - z) :: S) h := Rg rfl
set_option maxRecDepth 100000 in
theorem e104_34 {L : Lo} {h : Hp} {a2 : Int32} {a1 : Nat} {a0 : Int32} (hO : isO h a1 6 = true) : Run 104 34 L [.int a2, .ref a1, .int a0] h = (Run 65 0 [some (.ref a1), some (.int a2), none, none] [] h).bind fun o => aft 104 34 37 L [.int a0] o := Rcv (c := 65) (As := [.int a2]) (S' := [.int a0]) (pc' := 37) 6 rfl hO
theorem e104_37 {L : Lo} {S : List Value} {h : Hp} {x z : Int32} : Run 104 37 L (.int z :: .int x :: S) h = Run 104 38 L (.int (x + z) :: S) h := Rg rfl
theorem e104_38 {L : Lo} {S : List Value} {h : Hp} {x0 x1 x2 : Option Value} {y : Option Value} {v : Int32} : Run 104 38 (x0 :: x1 :: x2 :: y :: L) (.int v :: S) h = Run 104 39 (x0 :: x1 :: ck x2 :: some (.int v) :: L) S h := Rg rfl
theorem e104_39 {L : Lo} {S : List Value} {h : Hp} {x0 x1 x2 : Option Value} {v : Int32} : Run 104 39 (x0 :: x1 :: x2 :: some (.int v) :: L) S h = Run 104 40 (x0 :: x1 :: x2 :: some (.int v) :: L) (.int v :: S) h := Rg rfl
theorem e104_40 {L : Lo} {S : List Value} {h : Hp} {x : Int32} : Run 104 40 L (.int x :: S) h = if x ≤ 0 then Run 104 51 L S h else Run 104 43 L S h := Rbr (c := cnd .le x 0 = true) (off := 11) rfl rfl cnd_le
theorem e104_43 {L : Lo} {S : List Value} {h : Hp} {x0 x1 : Option Value} {v : Int32} : Run 104 43 (x0 :: x1 :: some (.int v) :: L) S h = Run 104 44 (x0 :: x1 :: some (.int v) :: L) (.int v :: S) h := Rg rfl
theorem e104_44 {L : Lo} {S : List Value} {h : Hp} {x : Int32} : Run 104 44 L (.int x :: S) h = Run 104 45 L (.double (FP.i2d x) :: S) h := Rg rfl
theorem e104_45 {L : Lo} {S : List Value} {h : Hp} {x0 x1 x2 : Option Value} {v : Int32} : Run 104 45 (x0 :: x1 :: x2 :: some (.int v) :: L) S h = Run 104 46 (x0 :: x1 :: x2 :: some (.int v) :: L) (.int v :: S) h := Rg rfl
theorem e104_46 {L : Lo} {S : List Value} {h : Hp} {x : Int32} : Run 104 46 L (.int x :: S) h = Run 104 47 L (.double (FP.i2d x) :: S) h := Rg rfl
theorem e104_47 {L : Lo} {S : List Value} {h : Hp} {x z : UInt64} (hz : vf_n64 (FP.ddiv x z)) : Run 104 47 L (.double z :: .double x :: S) h = Run 104 48 L (.double (FP.ddiv x z) :: S) h := Rg (if_pos hz)
theorem e104_48 {L : Lo} {S : List Value} {h : Hp} : Run 104 48 L S h = Run 104 54 L S h := Rg rfl
theorem e104_51 {L : Lo} {S : List Value} {h : Hp} : Run 104 51 L S h = Run 104 54 L (.double (4602678819172646912 : UInt64) :: S) h := Rg rfl
theorem e104_54 {L : Lo} {h : Hp} {x : UInt64} : Run 104 54 L [.double x] h = some (.inl (some (.double x)), h) := Rd rfl
theorem e105_0 {L : Lo} {S : List Value} {h : Hp} {x0 : Option Value} {v : Int32} : Run 105 0 (x0 :: some (.int v) :: L) S h = Run 105 1 (x0 :: some (.int v) :: L) (.int v :: S) h := Rg rfl
theorem e105_1 {L : Lo} {S : List Value} {h : Hp} {x : Int32} : Run 105 1 L (.int x :: S) h = if x < 0 then Run 105 10 L S h else Run 105 4 L S h := Rbr (c := cnd .lt x 0 = true) (off := 9) rfl rfl cnd_lt
theorem e105_4 {L : Lo} {S : List Value} {h : Hp} {x0 : Option Value} {v : Int32} : Run 105 4 (x0 :: some (.int v) :: L) S h = Run 105 5 (x0 :: some (.int v) :: L) (.int v :: S) h := Rg rfl
theorem e105_5 {L : Lo} {S : List Value} {h : Hp} : Run 105 5 L S h = Run 105 7 L (.int 127 :: S) h := Rg rfl
theorem e105_7 {L : Lo} {S : List Value} {h : Hp} {x z : Int32} : Run 105 7 L (.int z :: .int x :: S) h = if x ≤ z then Run 105 21 L S h else Run 105 10 L S h := Rbr (c := cnd .le x z = true) (off := 14) rfl rfl cnd_le
theorem e105_10 {L : Lo} {h : Hp} : Run 105 10 L [] h = some (.inr "java/lang/IllegalArgumentException", hbump h) := Rd rfl
theorem e105_21 {L : Lo} {S : List Value} {h : Hp} {v : Nat} : Run 105 21 (some (.ref v) :: L) S h = Run 105 22 (some (.ref v) :: L) (.ref v :: S) h := Rg rfl
theorem e105_22 {L : Lo} {S : List Value} {h : Hp} {b : Nat} : Run 105 22 L (.ref b :: S) h = (gf h 8 6 b).bind fun v => Run 105 25 L (v :: S) h := Rb rfl fun _ => rfl
set_option maxRecDepth 100000 in
theorem e105_25 {L : Lo} {h : Hp} {a0 : Nat} (hO : isO h a0 5 = true) : Run 105 25 L [.ref a0] h = (Run 34 0 [some (.ref a0)] [] h).bind fun o => aft 105 25 28 L [] o := Rcv (c := 34) (As := []) (S' := []) (pc' := 28) 5 rfl hO
theorem e105_28 {L : Lo} {S : List Value} {h : Hp} {x : Int32} : Run 105 28 L (.int x :: S) h = if x = 0 then Run 105 42 L S h else Run 105 31 L S h := Rbr (c := cnd .eq x 0 = true) (off := 14) rfl rfl cnd_eq
theorem e105_31 {L : Lo} {h : Hp} : Run 105 31 L [] h = some (.inr "java/lang/IllegalStateException", hbump h) := Rd rfl
theorem e105_42 {L : Lo} {S : List Value} {h : Hp} {v : Nat} : Run 105 42 (some (.ref v) :: L) S h = Run 105 43 (some (.ref v) :: L) (.ref v :: S) h := Rg rfl
theorem e105_43 {L : Lo} {S : List Value} {h : Hp} {b : Nat} : Run 105 43 L (.ref b :: S) h = (gf h 8 6 b).bind fun v => Run 105 46 L (v :: S) h := Rb rfl fun _ => rfl
theorem e105_46 {L : Lo} {S : List Value} {h : Hp} {x0 : Option Value} {v : Int32} : Run 105 46 (x0 :: some (.int v) :: L) S h = Run 105 47 (x0 :: some (.int v) :: L) (.int v :: S) h := Rg rfl
set_option maxRecDepth 100000 in
theorem e105_47 {L : Lo} {h : Hp} {a1 : Int32} {a0 : Nat} (hO : isO h a0 5 = true) : Run 105 47 L [.int a1, .ref a0] h = (Run 35 0 [some (.ref a0), some (.int a1)] [] h).bind fun o => aft 105 47 50 L [] o := Rcv (c := 35) (As := [.int a1]) (S' := []) (pc' := 50) 5 rfl hO
theorem e105_50 {L : Lo} {S : List Value} {h : Hp} {v : Nat} : Run 105 50 (some (.ref v) :: L) S h = Run 105 51 (some (.ref v) :: L) (.ref v :: S) h := Rg rfl
theorem e105_51 {L : Lo} {S : List Value} {h : Hp} {b : Nat} : Run 105 51 L (.ref b :: S) h = (gf h 8 6 b).bind fun v => Run 105 54 L (v :: S) h := Rb rfl fun _ => rfl
theorem e105_54 {L : Lo} {S : List Value} {h : Hp} {b : Nat} : Run 105 54 L (.ref b :: S) h = (gf h 5 1 b).bind fun v => Run 105 57 L (v :: S) h := Rb rfl fun _ => rfl
theorem e105_57 {L : Lo} {h : Hp} {x : Int32} : Run 105 57 L [.int x] h = some (.inl (some (.int x)), h) := Rd (if_pos (c := narrow .int (.int x) = .int x) rfl)
theorem e106_0 {L : Lo} {S : List Value} {h : Hp} {v : Nat} : Run 106 0 (some (.ref v) :: L) S h = Run 106 1 (some (.ref v) :: L) (.ref v :: S) h := Rg rfl
theorem e106_1 {L : Lo} {S : List Value} {h : Hp} {b : Nat} : Run 106 1 L (.ref b :: S) h = (gf h 8 6 b).bind fun v => Run 106 4 L (v :: S) h := Rb rfl fun _ => rfl
set_option maxRecDepth 100000 in
theorem e106_4 {L : Lo} {h : Hp} {a0 : Nat} (hO : isO h a0 5 = true) : Run 106 4 L [.ref a0] h = (Run 37 0 [some (.ref a0), none, none] [] h).bind fun o => aft 106 4 7 L [] o := Rcv (c := 37) (As := []) (S' := []) (pc' := 7) 5 rfl hO
theorem e106_7 {L : Lo} {S : List Value} {h : Hp} {x0 : Option Value} {y : Option Value} {v : Int32} : Run 106 7 (x0 :: y :: L) (.int v :: S) h = Run 106 8 (ck x0 :: some (.int v) :: L) S h := Rg rfl
theorem e106_8 {L : Lo} {S : List Value} {h : Hp} {x0 : Option Value} {v : Int32} : Run 106 8 (x0 :: some (.int v) :: L) S h = Run 106 9 (x0 :: some (.int v) :: L) (.int v :: S) h := Rg rfl
theorem e106_9 {L : Lo} {S : List Value} {h : Hp} : Run 106 9 L S h = Run 106 10 L (.int (-1) :: S) h := Rg rfl
theorem e106_10 {L : Lo} {S : List Value} {h : Hp} {x z : Int32} : Run 106 10 L (.int z :: .int x :: S) h = if x = z then Run 106 18 L S h else Run 106 13 L S h := Rbr (c := cnd .eq x z = true) (off := 8) rfl rfl cnd_eq
theorem e106_13 {L : Lo} {S : List Value} {h : Hp} : Run 106 13 L S h = Run 106 15 L (.int (-10) :: S) h := Rg rfl
theorem e106_15 {L : Lo} {S : List Value} {h : Hp} {x0 : Option Value} {v : Int32} : Run 106 15 (x0 :: some (.int v) :: L) S h = Run 106 16 (x0 :: some (.int v) :: L) (.int v :: S) h := Rg rfl
theorem e106_16 {L : Lo} {S : List Value} {h : Hp} {x z : Int32} : Run 106 16 L (.int z :: .int x :: S) h = Run 106 17 L (.int (x - z) :: S) h := Rg rfl
theorem e106_17 {L : Lo} {h : Hp} {x : Int32} : Run 106 17 L [.int x] h = some (.inl (some (.int x)), h) := Rd (if_pos (c := narrow .int (.int x) = .int x) rfl)
theorem e106_18 {L : Lo} {S : List Value} {h : Hp} {v : Nat} : Run 106 18 (some (.ref v) :: L) S h = Run 106 19 (some (.ref v) :: L) (.ref v :: S) h := Rg rfl
theorem e106_19 {L : Lo} {S : List Value} {h : Hp} {b : Nat} : Run 106 19 L (.ref b :: S) h = (gf h 8 1 b).bind fun v => Run 106 22 L (v :: S) h := Rb rfl fun _ => rfl
theorem e106_22 {L : Lo} {S : List Value} {h : Hp} {v : Nat} : Run 106 22 (some (.ref v) :: L) S h = Run 106 23 (some (.ref v) :: L) (.ref v :: S) h := Rg rfl
theorem e106_23 {L : Lo} {S : List Value} {h : Hp} {b : Nat} : Run 106 23 L (.ref b :: S) h = (gf h 8 0 b).bind fun v => Run 106 26 L (v :: S) h := Rb rfl fun _ => rfl
set_option maxRecDepth 100000 in
theorem e106_26 {L : Lo} {h : Hp} {a1 : Nat} {a0 : Nat} (hO : isO h a0 4 = true) : Run 106 26 L [.ref a1, .ref a0] h = (Run 30 0 [some (.ref a0), some (.ref a1)] [] h).bind fun o => aft 106 26 29 L [] o := Rcv (c := 30) (As := [.ref a1]) (S' := []) (pc' := 29) 4 rfl hO
theorem e106_29 {L : Lo} {S : List Value} {h : Hp} : Run 106 29 L S h = Run 106 30 L (.int 0 :: S) h := Rg rfl
theorem e106_30 {L : Lo} {S : List Value} {h : Hp} {x0 x1 : Option Value} {y : Option Value} {v : Int32} : Run 106 30 (x0 :: x1 :: y :: L) (.int v :: S) h = Run 106 31 (x0 :: ck x1 :: some (.int v) :: L) S h := Rg rfl
theorem e106_31 {L : Lo} {S : List Value} {h : Hp} : Run 106 31 L S h = Run 106 32 L (.int 0 :: S) h := Rg rfl
theorem e106_32 {L : Lo} {S : List Value} {h : Hp} {x0 x1 x2 : Option Value} {y : Option Value} {v : Int32} : Run 106 32 (x0 :: x1 :: x2 :: y :: L) (.int v :: S) h = Run 106 33 (x0 :: x1 :: ck x2 :: some (.int v) :: L) S h := Rg rfl
theorem e106_33 {L : Lo} {S : List Value} {h : Hp} {x0 x1 x2 : Option Value} {v : Int32} : Run 106 33 (x0 :: x1 :: x2 :: some (.int v) :: L) S h = Run 106 34 (x0 :: x1 :: x2 :: some (.int v) :: L) (.int v :: S) h := Rg rfl
theorem e106_34 {L : Lo} {S : List Value} {h : Hp} {v : Nat} : Run 106 34 (some (.ref v) :: L) S h = Run 106 35 (some (.ref v) :: L) (.ref v :: S) h := Rg rfl
theorem e106_35 {L : Lo} {S : List Value} {h : Hp} {b : Nat} : Run 106 35 L (.ref b :: S) h = (gf h 8 6 b).bind fun v => Run 106 38 L (v :: S) h := Rb rfl fun _ => rfl
theorem e106_38 {L : Lo} {S : List Value} {h : Hp} {b : Nat} : Run 106 38 L (.ref b :: S) h = (gf h 5 1 b).bind fun v => Run 106 41 L (v :: S) h := Rb rfl fun _ => rfl
theorem e106_41 {L : Lo} {S : List Value} {h : Hp} {x z : Int32} : Run 106 41 L (.int z :: .int x :: S) h = if z ≤ x then Run 106 101 L S h else Run 106 44 L S h := Rbr (c := cnd .ge x z = true) (off := 60) rfl rfl cnd_ge
theorem e106_44 {L : Lo} {S : List Value} {h : Hp} {v : Nat} : Run 106 44 (some (.ref v) :: L) S h = Run 106 45 (some (.ref v) :: L) (.ref v :: S) h := Rg rfl
theorem e106_45 {L : Lo} {S : List Value} {h : Hp} {b : Nat} : Run 106 45 L (.ref b :: S) h = (gf h 8 2 b).bind fun v => Run 106 48 L (v :: S) h := Rb rfl fun _ => rfl
theorem e106_48 {L : Lo} {S : List Value} {h : Hp} {v : Nat} : Run 106 48 (some (.ref v) :: L) S h = Run 106 49 (some (.ref v) :: L) (.ref v :: S) h := Rg rfl
theorem e106_49 {L : Lo} {S : List Value} {h : Hp} {b : Nat} : Run 106 49 L (.ref b :: S) h = (gf h 8 6 b).bind fun v => Run 106 52 L (v :: S) h := Rb rfl fun _ => rfl
theorem e106_52 {L : Lo} {S : List Value} {h : Hp} {x0 x1 x2 : Option Value} {v : Int32} : Run 106 52 (x0 :: x1 :: x2 :: some (.int v) :: L) S h = Run 106 53 (x0 :: x1 :: x2 :: some (.int v) :: L) (.int v :: S) h := Rg rfl
set_option maxRecDepth 100000 in
theorem e106_53 {L : Lo} {h : Hp} {a2 : Int32} {a1 : Nat} {a0 : Nat} (hO : isO h a1 5 = true) : Run 106 53 L [.int a2, .ref a1, .ref a0] h = (Run 36 0 [some (.ref a1), some (.int a2)] [] h).bind fun o => aft 106 53 56 L [.ref a0] o := Rcv (c := 36) (As := [.int a2]) (S' := [.ref a0]) (pc' := 56) 5 rfl hO
theorem e106_56 {L : Lo} {S : List Value} {h : Hp} {v : Nat} : Run 106 56 (some (.ref v) :: L) S h = Run 106 57 (some (.ref v) :: L) (.ref v :: S) h := Rg rfl
theorem e106_57 {L : Lo} {S : List Value} {h : Hp} {b : Nat} : Run 106 57 L (.ref b :: S) h = (gf h 8 6 b).bind fun v => Run 106 60 L (v :: S) h := Rb rfl fun _ => rfl
theorem e106_60 {L : Lo} {S : List Value} {h : Hp} {x0 x1 x2 : Option Value} {v : Int32} : Run 106 60 (x0 :: x1 :: x2 :: some (.int v) :: L) S h = Run 106 61 (x0 :: x1 :: x2 :: some (.int v) :: L) (.int v :: S) h := Rg rfl
theorem e106_61 {L : Lo} {S : List Value} {h : Hp} : Run 106 61 L S h = Run 106 62 L (.int 1 :: S) h := Rg rfl
theorem e106_62 {L : Lo} {S : List Value} {h : Hp} {x z : Int32} : Run 106 62 L (.int z :: .int x :: S) h = Run 106 63 L (.int (x + z) :: S) h := Rg rfl
set_option maxRecDepth 100000 in
theorem e106_63 {L : Lo} {h : Hp} {a3 : Int32} {a2 : Nat} {a1 : Int32} {a0 : Nat} (hO : isO h a2 5 = true) : Run 106 63 L [.int a3, .ref a2, .int a1, .ref a0] h = (Run 36 0 [some (.ref a2), some (.int a3)] [] h).bind fun o => aft 106 63 66 L [.int a1, .ref a0] o := Rcv (c := 36) (As := [.int a3]) (S' := [.int a1, .ref a0]) (pc' := 66) 5 rfl hO
set_option maxRecDepth 100000 in
theorem e106_66 {L : Lo} {h : Hp} {a2 : Int32} {a1 : Int32} {a0 : Nat} (hO : isO h a0 3 = true) : Run 106 66 L [.int a2, .int a1, .ref a0] h = (Run 26 0 [some (.ref a0), some (.int a1), some (.int a2), none, none] [] h).bind fun o => aft 106 66 69 L [] o := Rcv (c := 26) (As := [.int a1, .int a2]) (S' := []) (pc' := 69) 3 rfl hO
theorem e106_69 {L : Lo} {S : List Value} {h : Hp} {x : Int32} : Run 106 69 L (.int x :: S) h = if x = 0 then Run 106 72 L S h else Run 106 74 L S h := RbrN (c := cnd .ne x 0 = true) (off := 5) rfl rfl cnd_ne
theorem e106_72 {L : Lo} {S : List Value} {h : Hp} {x0 x1 : Option Value} {v : Int32} : Run 106 72 (x0 :: x1 :: some (.int v) :: L) S h = Run 106 73 (x0 :: x1 :: some (.int v) :: L) (.int v :: S) h := Rg rfl
theorem e106_73 {L : Lo} {h : Hp} {x : Int32} : Run 106 73 L [.int x] h = some (.inl (some (.int x)), h) := Rd (if_pos (c := narrow .int (.int x) = .int x) rfl)
theorem e106_74 {L : Lo} {S : List Value} {h : Hp} {x0 x1 : Option Value} {v : Int32} : Run 106 74 (x0 :: x1 :: some (.int v) :: L) S h = Run 106 77 (x0 :: x1 :: some (.int (v + 1)) :: L) S h := Rg rfl
theorem e106_77 {L : Lo} {S : List Value} {h : Hp} {x0 x1 x2 : Option Value} {v : Int32} : Run 106 77 (x0 :: x1 :: x2 :: some (.int v) :: L) S h = Run 106 78 (x0 :: x1 :: x2 :: some (.int v) :: L) (.int v :: S) h := Rg rfl
theorem e106_78 {L : Lo} {S : List Value} {h : Hp} {v : Nat} : Run 106 78 (some (.ref v) :: L) S h = Run 106 79 (some (.ref v) :: L) (.ref v :: S) h := Rg rfl
theorem e106_79 {L : Lo} {S : List Value} {h : Hp} {b : Nat} : Run 106 79 L (.ref b :: S) h = (gf h 8 6 b).bind fun v => Run 106 82 L (v :: S) h := Rb rfl fun _ => rfl
theorem e106_82 {L : Lo} {S : List Value} {h : Hp} {x0 x1 x2 : Option Value} {v : Int32} : Run 106 82 (x0 :: x1 :: x2 :: some (.int v) :: L) S h = Run 106 83 (x0 :: x1 :: x2 :: some (.int v) :: L) (.int v :: S) h := Rg rfl
set_option maxRecDepth 100000 in
theorem e106_83 {L : Lo} {h : Hp} {a2 : Int32} {a1 : Nat} {a0 : Int32} (hO : isO h a1 5 = true) : Run 106 83 L [.int a2, .ref a1, .int a0] h = (Run 36 0 [some (.ref a1), some (.int a2)] [] h).bind fun o => aft 106 83 86 L [.int a0] o := Rcv (c := 36) (As := [.int a2]) (S' := [.int a0]) (pc' := 86) 5 rfl hO
theorem e106_86 {L : Lo} {S : List Value} {h : Hp} : Run 106 86 L S h = Run 106 88 L (.int 101 :: S) h := Rg rfl
theorem e106_88 {L : Lo} {S : List Value} {h : Hp} {x z : Int32} : Run 106 88 L (.int z :: .int x :: S) h = if x = z then Run 106 91 L S h else Run 106 95 L S h := RbrN (c := cnd .ne x z = true) (off := 7) rfl rfl cnd_ne
theorem e106_91 {L : Lo} {S : List Value} {h : Hp} : Run 106 91 L S h = Run 106 92 L (.int 2 :: S) h := Rg rfl
theorem e106_92 {L : Lo} {S : List Value} {h : Hp} : Run 106 92 L S h = Run 106 96 L S h := Rg rfl
theorem e106_95 {L : Lo} {S : List Value} {h : Hp} : Run 106 95 L S h = Run 106 96 L (.int 3 :: S) h := Rg rfl
theorem e106_96 {L : Lo} {S : List Value} {h : Hp} {x z : Int32} : Run 106 96 L (.int z :: .int x :: S) h = Run 106 97 L (.int (x + z) :: S) h := Rg rfl
theorem e106_97 {L : Lo} {S : List Value} {h : Hp} {x0 x1 x2 : Option Value} {y : Option Value} {v : Int32} : Run 106 97 (x0 :: x1 :: x2 :: y :: L) (.int v :: S) h = Run 106 98 (x0 :: x1 :: ck x2 :: some (.int v) :: L) S h := Rg rfl
theorem e106_98 {L : Lo} {S : List Value} {h : Hp} : Run 106 98 L S h = Run 106 33 L S h := Rg rfl
theorem e106_101 {L : Lo} {S : List Value} {h : Hp} {x0 x1 : Option Value} {v : Int32} : Run 106 101 (x0 :: x1 :: some (.int v) :: L) S h = Run 106 102 (x0 :: x1 :: some (.int v) :: L) (.int v :: S) h := Rg rfl
theorem e106_102 {L : Lo} {h : Hp} {x : Int32} : Run 106 102 L [.int x] h = some (.inl (some (.int x)), h) := Rd (if_pos (c := narrow .int (.int x) = .int x) rfl)
theorem e107_0 {L : Lo} {S : List Value} {h : Hp} {v : Nat} : Run 107 0 (some (.ref v) :: L) S h = Run 107 1 (some (.ref v) :: L) (.ref v :: S) h := Rg rfl
theorem e107_1 {L : Lo} {S : List Value} {h : Hp} {b : Nat} : Run 107 1 L (.ref b :: S) h = (gf h 8 1 b).bind fun v => Run 107 4 L (v :: S) h := Rb rfl fun _ => rfl
theorem e107_4 {L : Lo} {S : List Value} {h : Hp} {b : Nat} : Run 107 4 L (.ref b :: S) h = (gf h 4 1 b).bind fun v => Run 107 7 L (v :: S) h := Rb rfl fun _ => rfl
theorem e107_7 {L : Lo} {S : List Value} {h : Hp} {x : Int32} : Run 107 7 L (.int x :: S) h = if x = 0 then Run 107 10 L S h else Run 107 21 L S h := RbrN (c := cnd .ne x 0 = true) (off := 14) rfl rfl cnd_ne
theorem e107_10 {L : Lo} {h : Hp} : Run 107 10 L [] h = some (.inr "java/lang/IllegalStateException", hbump h) := Rd rfl
theorem e107_21 {L : Lo} {S : List Value} {h : Hp} {v : Nat} : Run 107 21 (some (.ref v) :: L) S h = Run 107 22 (some (.ref v) :: L) (.ref v :: S) h := Rg rfl
theorem e107_22 {L : Lo} {S : List Value} {h : Hp} {b : Nat} : Run 107 22 L (.ref b :: S) h = (gf h 8 1 b).bind fun v => Run 107 25 L (v :: S) h := Rb rfl fun _ => rfl
theorem e107_25 {L : Lo} {S : List Value} {h : Hp} {v : Nat} : Run 107 25 (some (.ref v) :: L) S h = Run 107 26 (some (.ref v) :: L) (.ref v :: S) h := Rg rfl
theorem e107_26 {L : Lo} {S : List Value} {h : Hp} {b : Nat} : Run 107 26 L (.ref b :: S) h = (gf h 8 0 b).bind fun v => Run 107 29 L (v :: S) h := Rb rfl fun _ => rfl
set_option maxRecDepth 100000 in
theorem e107_29 {L : Lo} {h : Hp} {a1 : Nat} {a0 : Nat} (hO : isO h a0 4 = true) : Run 107 29 L [.ref a1, .ref a0] h = (Run 32 0 [some (.ref a0), some (.ref a1)] [] h).bind fun o => aft 107 29 32 L [] o := Rcv (c := 32) (As := [.ref a1]) (S' := []) (pc' := 32) 4 rfl hO
theorem e107_32 {L : Lo} {S : List Value} {h : Hp} {v : Nat} : Run 107 32 (some (.ref v) :: L) S h = Run 107 33 (some (.ref v) :: L) (.ref v :: S) h := Rg rfl
theorem e107_33 {L : Lo} {S : List Value} {h : Hp} {b : Nat} : Run 107 33 L (.ref b :: S) h = (gf h 8 1 b).bind fun v => Run 107 36 L (v :: S) h := Rb rfl fun _ => rfl
theorem e107_36 {L : Lo} {S : List Value} {h : Hp} {b : Nat} : Run 107 36 L (.ref b :: S) h = (gf h 4 1 b).bind fun v => Run 107 39 L (v :: S) h := Rb rfl fun _ => rfl
theorem e107_39 {L : Lo} {h : Hp} {x : Int32} : Run 107 39 L [.int x] h = some (.inl (some (.int x)), h) := Rd (if_pos (c := narrow .int (.int x) = .int x) rfl)
theorem e108_0 {L : Lo} {S : List Value} {h : Hp} : Run 108 0 L S h = Run 108 3 L (.long (103757 : Int64) :: S) h := Rg rfl
theorem e108_3 {L : Lo} {S : List Value} {h : Hp} {v : Nat} : Run 108 3 (some (.ref v) :: L) S h = Run 108 4 (some (.ref v) :: L) (.ref v :: S) h := Rg rfl
theorem e108_4 {L : Lo} {S : List Value} {h : Hp} {b : Nat} : Run 108 4 L (.ref b :: S) h = (gf h 8 6 b).bind fun v => Run 108 7 L (v :: S) h := Rb rfl fun _ => rfl
theorem e108_7 {L : Lo} {S : List Value} {h : Hp} {b : Nat} : Run 108 7 L (.ref b :: S) h = (gf h 5 1 b).bind fun v => Run 108 10 L (v :: S) h := Rb rfl fun _ => rfl
theorem e108_10 {L : Lo} {S : List Value} {h : Hp} {x : Int32} : Run 108 10 L (.int x :: S) h = Run 108 11 L (.long x.toInt64 :: S) h := Rg rfl
theorem e108_11 {L : Lo} {S : List Value} {h : Hp} {x z : Int64} : Run 108 11 L (.long z :: .long x :: S) h = Run 108 12 L (.long (x + z) :: S) h := Rg rfl
theorem e108_12 {L : Lo} {S : List Value} {h : Hp} {x0 : Option Value} {y w : Option Value} {v : Int64} : Run 108 12 (x0 :: y :: w :: L) (.long v :: S) h = Run 108 13 (ck x0 :: some (.long v) :: none :: L) S h := Rg rfl
theorem e108_13 {L : Lo} {S : List Value} {h : Hp} : Run 108 13 L S h = Run 108 14 L (.int 0 :: S) h := Rg rfl
theorem e108_14 {L : Lo} {S : List Value} {h : Hp} {x0 x1 x2 : Option Value} {y : Option Value} {v : Int32} : Run 108 14 (x0 :: x1 :: x2 :: y :: L) (.int v :: S) h = Run 108 15 (x0 :: x1 :: ck x2 :: some (.int v) :: L) S h := Rg rfl
theorem e108_15 {L : Lo} {S : List Value} {h : Hp} {x0 x1 x2 : Option Value} {v : Int32} : Run 108 15 (x0 :: x1 :: x2 :: some (.int v) :: L) S h = Run 108 16 (x0 :: x1 :: x2 :: some (.int v) :: L) (.int v :: S) h := Rg rfl
theorem e108_16 {L : Lo} {S : List Value} {h : Hp} : Run 108 16 L S h = Run 108 18 L (.int 9 :: S) h := Rg rfl
theorem e108_18 {L : Lo} {S : List Value} {h : Hp} {x z : Int32} : Run 108 18 L (.int z :: .int x :: S) h = if z < x then Run 108 43 L S h else Run 108 21 L S h := Rbr (c := cnd .gt x z = true) (off := 25) rfl rfl cnd_gt
theorem e108_21 {L : Lo} {S : List Value} {h : Hp} : Run 108 21 L S h = Run 108 24 L (.long (31 : Int64) :: S) h := Rg rfl
theorem e108_24 {L : Lo} {S : List Value} {h : Hp} {x0 : Option Value} {v : Int64} : Run 108 24 (x0 :: some (.long v) :: L) S h = Run 108 25 (x0 :: some (.long v) :: L) (.long v :: S) h := Rg rfl
theorem e108_25 {L : Lo} {S : List Value} {h : Hp} {x z : Int64} : Run 108 25 L (.long z :: .long x :: S) h = Run 108 26 L (.long (x * z) :: S) h := Rg rfl
theorem e108_26 {L : Lo} {S : List Value} {h : Hp} {v : Nat} : Run 108 26 (some (.ref v) :: L) S h = Run 108 27 (some (.ref v) :: L) (.ref v :: S) h := Rg rfl
theorem e108_27 {L : Lo} {S : List Value} {h : Hp} {b : Nat} : Run 108 27 L (.ref b :: S) h = (gf h 8 0 b).bind fun v => Run 108 30 L (v :: S) h := Rb rfl fun _ => rfl
theorem e108_30 {L : Lo} {S : List Value} {h : Hp} {x0 x1 x2 : Option Value} {v : Int32} : Run 108 30 (x0 :: x1 :: x2 :: some (.int v) :: L) S h = Run 108 31 (x0 :: x1 :: x2 :: some (.int v) :: L) (.int v :: S) h := Rg rfl
set_option maxRecDepth 100000 in
theorem e108_31 {L : Lo} {h : Hp} {a2 : Int32} {a1 : Nat} {a0 : Int64} (hO : isO h a1 6 = true) : Run 108 31 L [.int a2, .ref a1, .long a0] h = (Run 68 0 [some (.ref a1), some (.int a2)] [] h).bind fun o => aft 108 31 34 L [.long a0] o := Rcv (c := 68) (As := [.int a2]) (S' := [.long a0]) (pc' := 34) 6 rfl hO
theorem e108_34 {L : Lo} {S : List Value} {h : Hp} {x : Int32} : Run 108 34 L (.int x :: S) h = Run 108 35 L (.long x.toInt64 :: S) h := Rg rfl
theorem e108_35 {L : Lo} {S : List Value} {h : Hp} {x z : Int64} : Run 108 35 L (.long z :: .long x :: S) h = Run 108 36 L (.long (x + z) :: S) h := Rg rfl
theorem e108_36 {L : Lo} {S : List Value} {h : Hp} {x0 : Option Value} {y w : Option Value} {v : Int64} : Run 108 36 (x0 :: y :: w :: L) (.long v :: S) h = Run 108 37 (ck x0 :: some (.long v) :: none :: L) S h := Rg rfl
theorem e108_37 {L : Lo} {S : List Value} {h : Hp} {x0 x1 x2 : Option Value} {v : Int32} : Run 108 37 (x0 :: x1 :: x2 :: some (.int v) :: L) S h = Run 108 40 (x0 :: x1 :: x2 :: some (.int (v + 1)) :: L) S h := Rg rfl
theorem e108_40 {L : Lo} {S : List Value} {h : Hp} : Run 108 40 L S h = Run 108 15 L S h := Rg rfl
theorem e108_43 {L : Lo} {S : List Value} {h : Hp} : Run 108 43 L S h = Run 108 44 L (.int 0 :: S) h := Rg rfl
theorem e108_44 {L : Lo} {S : List Value} {h : Hp} {x0 x1 x2 : Option Value} {y : Option Value} {v : Int32} : Run 108 44 (x0 :: x1 :: x2 :: y :: L) (.int v :: S) h = Run 108 45 (x0 :: x1 :: ck x2 :: some (.int v) :: L) S h := Rg rfl
theorem e108_45 {L : Lo} {S : List Value} {h : Hp} {x0 x1 x2 : Option Value} {v : Int32} : Run 108 45 (x0 :: x1 :: x2 :: some (.int v) :: L) S h = Run 108 46 (x0 :: x1 :: x2 :: some (.int v) :: L) (.int v :: S) h := Rg rfl
theorem e108_46 {L : Lo} {S : List Value} {h : Hp} {v : Nat} : Run 108 46 (some (.ref v) :: L) S h = Run 108 47 (some (.ref v) :: L) (.ref v :: S) h := Rg rfl
theorem e108_47 {L : Lo} {S : List Value} {h : Hp} {b : Nat} : Run 108 47 L (.ref b :: S) h = (gf h 8 0 b).bind fun v => Run 108 50 L (v :: S) h := Rb rfl fun _ => rfl
theorem e108_50 {L : Lo} {S : List Value} {h : Hp} {b : Nat} : Run 108 50 L (.ref b :: S) h = (gf h 6 5 b).bind fun v => Run 108 53 L (v :: S) h := Rb rfl fun _ => rfl
theorem e108_53 {L : Lo} {S : List Value} {h : Hp} {x z : Int32} : Run 108 53 L (.int z :: .int x :: S) h = if z ≤ x then Run 108 134 L S h else Run 108 56 L S h := Rbr (c := cnd .ge x z = true) (off := 81) rfl rfl cnd_ge
theorem e108_56 {L : Lo} {S : List Value} {h : Hp} {x0 x1 x2 : Option Value} {v : Int32} : Run 108 56 (x0 :: x1 :: x2 :: some (.int v) :: L) S h = Run 108 57 (x0 :: x1 :: x2 :: some (.int v) :: L) (.int v :: S) h := Rg rfl
theorem e108_57 {L : Lo} {S : List Value} {h : Hp} : Run 108 57 L S h = Run 108 59 L (.int 8 :: S) h := Rg rfl
theorem e108_59 {L : Lo} {S : List Value} {h : Hp} {x z : Int32} : Run 108 59 L (.int z :: .int x :: S) h = if z ≤ x then Run 108 134 L S h else Run 108 62 L S h := Rbr (c := cnd .ge x z = true) (off := 75) rfl rfl cnd_ge
theorem e108_62 {L : Lo} {S : List Value} {h : Hp} : Run 108 62 L S h = Run 108 63 L (.int 0 :: S) h := Rg rfl
theorem e108_63 {L : Lo} {S : List Value} {h : Hp} {x0 x1 x2 x3 : Option Value} {y : Option Value} {v : Int32} : Run 108 63 (x0 :: x1 :: x2 :: x3 :: y :: L) (.int v :: S) h = Run 108 65 (x0 :: x1 :: x2 :: ck x3 :: some (.int v) :: L) S h := Rg rfl
theorem e108_65 {L : Lo} {S : List Value} {h : Hp} {x0 x1 x2 x3 : Option Value} {v : Int32} : Run 108 65 (x0 :: x1 :: x2 :: x3 :: some (.int v) :: L) S h = Run 108 67 (x0 :: x1 :: x2 :: x3 :: some (.int v) :: L) (.int v :: S) h := Rg rfl
theorem e108_67 {L : Lo} {S : List Value} {h : Hp} : Run 108 67 L S h = Run 108 69 L (.int 14 :: S) h := Rg rfl
theorem e108_69 {L : Lo} {S : List Value} {h : Hp} {x z : Int32} : Run 108 69 L (.int z :: .int x :: S) h = if z < x then Run 108 104 L S h else Run 108 72 L S h := Rbr (c := cnd .gt x z = true) (off := 35) rfl rfl cnd_gt
theorem e108_72 {L : Lo} {S : List Value} {h : Hp} : Run 108 72 L S h = Run 108 75 L (.long (31 : Int64) :: S) h := Rg rfl
theorem e108_75 {L : Lo} {S : List Value} {h : Hp} {x0 : Option Value} {v : Int64} : Run 108 75 (x0 :: some (.long v) :: L) S h = Run 108 76 (x0 :: some (.long v) :: L) (.long v :: S) h := Rg rfl
theorem e108_76 {L : Lo} {S : List Value} {h : Hp} {x z : Int64} : Run 108 76 L (.long z :: .long x :: S) h = Run 108 77 L (.long (x * z) :: S) h := Rg rfl
theorem e108_77 {L : Lo} {S : List Value} {h : Hp} {v : Nat} : Run 108 77 (some (.ref v) :: L) S h = Run 108 78 (some (.ref v) :: L) (.ref v :: S) h := Rg rfl
theorem e108_78 {L : Lo} {S : List Value} {h : Hp} {b : Nat} : Run 108 78 L (.ref b :: S) h = (gf h 8 0 b).bind fun v => Run 108 81 L (v :: S) h := Rb rfl fun _ => rfl
theorem e108_81 {L : Lo} {S : List Value} {h : Hp} {v : Nat} : Run 108 81 (some (.ref v) :: L) S h = Run 108 82 (some (.ref v) :: L) (.ref v :: S) h := Rg rfl
theorem e108_82 {L : Lo} {S : List Value} {h : Hp} {b : Nat} : Run 108 82 L (.ref b :: S) h = (gf h 8 0 b).bind fun v => Run 108 85 L (v :: S) h := Rb rfl fun _ => rfl
theorem e108_85 {L : Lo} {S : List Value} {h : Hp} {b : Nat} : Run 108 85 L (.ref b :: S) h = (gf h 6 7 b).bind fun v => Run 108 88 L (v :: S) h := Rb rfl fun _ => rfl
theorem e108_88 {L : Lo} {S : List Value} {h : Hp} {x0 x1 x2 : Option Value} {v : Int32} : Run 108 88 (x0 :: x1 :: x2 :: some (.int v) :: L) S h = Run 108 89 (x0 :: x1 :: x2 :: some (.int v) :: L) (.int v :: S) h := Rg rfl
theorem e108_89 {L : Lo} {S : List Value} {h : Hp} {i : Int32} {b : Nat} : Run 108 89 L (.int i :: .ref b :: S) h = (gaR h b i).bind fun v => Run 108 90 L (va_rf v :: S) h := Rb rfl fun _ => rfl
theorem e108_90 {L : Lo} {S : List Value} {h : Hp} {x0 x1 x2 x3 : Option Value} {v : Int32} : Run 108 90 (x0 :: x1 :: x2 :: x3 :: some (.int v) :: L) S h = Run 108 92 (x0 :: x1 :: x2 :: x3 :: some (.int v) :: L) (.int v :: S) h := Rg rfl
set_option maxRecDepth 100000 in
theorem e108_92 {L : Lo} {h : Hp} {a3 : Int32} {a2 : Nat} {a1 : Nat} {a0 : Int64} (hO : isO h a1 6 = true) : Run 108 92 L [.int a3, .ref a2, .ref a1, .long a0] h = (Run 69 0 [some (.ref a1), some (.ref a2), some (.int a3)] [] h).bind fun o => aft 108 92 95 L [.long a0] o := Rcv (c := 69) (As := [.ref a2, .int a3]) (S' := [.long a0]) (pc' := 95) 6 rfl hO
theorem e108_95 {L : Lo} {S : List Value} {h : Hp} {x : Int32} : Run 108 95 L (.int x :: S) h = Run 108 96 L (.long x.toInt64 :: S) h := Rg rfl
theorem e108_96 {L : Lo} {S : List Value} {h : Hp} {x z : Int64} : Run 108 96 L (.long z :: .long x :: S) h = Run 108 97 L (.long (x + z) :: S) h := Rg rfl
theorem e108_97 {L : Lo} {S : List Value} {h : Hp} {x0 : Option Value} {y w : Option Value} {v : Int64} : Run 108 97 (x0 :: y :: w :: L) (.long v :: S) h = Run 108 98 (ck x0 :: some (.long v) :: none :: L) S h := Rg rfl
theorem e108_98 {L : Lo} {S : List Value} {h : Hp} {x0 x1 x2 x3 : Option Value} {v : Int32} : Run 108 98 (x0 :: x1 :: x2 :: x3 :: some (.int v) :: L) S h = Run 108 101 (x0 :: x1 :: x2 :: x3 :: some (.int (v + 1)) :: L) S h := Rg rfl
theorem e108_101 {L : Lo} {S : List Value} {h : Hp} : Run 108 101 L S h = Run 108 65 L S h := Rg rfl
theorem e108_104 {L : Lo} {S : List Value} {h : Hp} : Run 108 104 L S h = Run 108 107 L (.long (31 : Int64) :: S) h := Rg rfl
theorem e108_107 {L : Lo} {S : List Value} {h : Hp} {x0 : Option Value} {v : Int64} : Run 108 107 (x0 :: some (.long v) :: L) S h = Run 108 108 (x0 :: some (.long v) :: L) (.long v :: S) h := Rg rfl
theorem e108_108 {L : Lo} {S : List Value} {h : Hp} {x z : Int64} : Run 108 108 L (.long z :: .long x :: S) h = Run 108 109 L (.long (x * z) :: S) h := Rg rfl
theorem e108_109 {L : Lo} {S : List Value} {h : Hp} {v : Nat} : Run 108 109 (some (.ref v) :: L) S h = Run 108 110 (some (.ref v) :: L) (.ref v :: S) h := Rg rfl
theorem e108_110 {L : Lo} {S : List Value} {h : Hp} {b : Nat} : Run 108 110 L (.ref b :: S) h = (gf h 8 5 b).bind fun v => Run 108 113 L (v :: S) h := Rb rfl fun _ => rfl
theorem e108_113 {L : Lo} {S : List Value} {h : Hp} {v : Nat} : Run 108 113 (some (.ref v) :: L) S h = Run 108 114 (some (.ref v) :: L) (.ref v :: S) h := Rg rfl
theorem e108_114 {L : Lo} {S : List Value} {h : Hp} {b : Nat} : Run 108 114 L (.ref b :: S) h = (gf h 8 0 b).bind fun v => Run 108 117 L (v :: S) h := Rb rfl fun _ => rfl
theorem e108_117 {L : Lo} {S : List Value} {h : Hp} {b : Nat} : Run 108 117 L (.ref b :: S) h = (gf h 6 7 b).bind fun v => Run 108 120 L (v :: S) h := Rb rfl fun _ => rfl
theorem e108_120 {L : Lo} {S : List Value} {h : Hp} {x0 x1 x2 : Option Value} {v : Int32} : Run 108 120 (x0 :: x1 :: x2 :: some (.int v) :: L) S h = Run 108 121 (x0 :: x1 :: x2 :: some (.int v) :: L) (.int v :: S) h := Rg rfl
theorem e108_121 {L : Lo} {S : List Value} {h : Hp} {i : Int32} {b : Nat} : Run 108 121 L (.int i :: .ref b :: S) h = (gaR h b i).bind fun v => Run 108 122 L (va_rf v :: S) h := Rb rfl fun _ => rfl
set_option maxRecDepth 100000 in
theorem e108_122 {L : Lo} {h : Hp} {a2 : Nat} {a1 : Nat} {a0 : Int64} (hO : isO h a1 0 = true) : Run 108 122 L [.ref a2, .ref a1, .long a0] h = (Run 1 0 [some (.ref a1), some (.ref a2)] [] h).bind fun o => aft 108 122 125 L [.long a0] o := Rcv (c := 1) (As := [.ref a2]) (S' := [.long a0]) (pc' := 125) 0 rfl hO
theorem e108_125 {L : Lo} {S : List Value} {h : Hp} {x : Int32} : Run 108 125 L (.int x :: S) h = Run 108 126 L (.long x.toInt64 :: S) h := Rg rfl
theorem e108_126 {L : Lo} {S : List Value} {h : Hp} {x z : Int64} : Run 108 126 L (.long z :: .long x :: S) h = Run 108 127 L (.long (x + z) :: S) h := Rg rfl
theorem e108_127 {L : Lo} {S : List Value} {h : Hp} {x0 : Option Value} {y w : Option Value} {v : Int64} : Run 108 127 (x0 :: y :: w :: L) (.long v :: S) h = Run 108 128 (ck x0 :: some (.long v) :: none :: L) S h := Rg rfl
theorem e108_128 {L : Lo} {S : List Value} {h : Hp} {x0 x1 x2 : Option Value} {v : Int32} : Run 108 128 (x0 :: x1 :: x2 :: some (.int v) :: L) S h = Run 108 131 (x0 :: x1 :: x2 :: some (.int (v + 1)) :: L) S h := Rg rfl
theorem e108_131 {L : Lo} {S : List Value} {h : Hp} : Run 108 131 L S h = Run 108 45 L S h := Rg rfl
theorem e108_134 {L : Lo} {S : List Value} {h : Hp} {v : Nat} : Run 108 134 (some (.ref v) :: L) S h = Run 108 135 (some (.ref v) :: L) (.ref v :: S) h := Rg rfl
theorem e108_135 {L : Lo} {S : List Value} {h : Hp} {b : Nat} : Run 108 135 L (.ref b :: S) h = (gf h 8 0 b).bind fun v => Run 108 138 L (v :: S) h := Rb rfl fun _ => rfl
set_option maxRecDepth 100000 in
theorem e108_138 {L : Lo} {h : Hp} {a0 : Nat} (hO : isO h a0 6 = true) : Run 108 138 L [.ref a0] h = (Run 43 0 [some (.ref a0)] [] h).bind fun o => aft 108 138 141 L [] o := Rcv (c := 43) (As := []) (S' := []) (pc' := 141) 6 rfl hO
theorem e108_141 {L : Lo} {S : List Value} {h : Hp} {x0 x1 x2 : Option Value} {y : Option Value} {v : Int32} : Run 108 141 (x0 :: x1 :: x2 :: y :: L) (.int v :: S) h = Run 108 142 (x0 :: x1 :: ck x2 :: some (.int v) :: L) S h := Rg rfl
theorem e108_142 {L : Lo} {S : List Value} {h : Hp} : Run 108 142 L S h = Run 108 143 L (.int 0 :: S) h := Rg rfl
theorem e108_143 {L : Lo} {S : List Value} {h : Hp} {x0 x1 x2 x3 : Option Value} {y : Option Value} {v : Int32} : Run 108 143 (x0 :: x1 :: x2 :: x3 :: y :: L) (.int v :: S) h = Run 108 145 (x0 :: x1 :: x2 :: ck x3 :: some (.int v) :: L) S h := Rg rfl
theorem e108_145 {L : Lo} {S : List Value} {h : Hp} {x0 x1 x2 x3 : Option Value} {v : Int32} : Run 108 145 (x0 :: x1 :: x2 :: x3 :: some (.int v) :: L) S h = Run 108 147 (x0 :: x1 :: x2 :: x3 :: some (.int v) :: L) (.int v :: S) h := Rg rfl
theorem e108_147 {L : Lo} {S : List Value} {h : Hp} {x0 x1 x2 : Option Value} {v : Int32} : Run 108 147 (x0 :: x1 :: x2 :: some (.int v) :: L) S h = Run 108 148 (x0 :: x1 :: x2 :: some (.int v) :: L) (.int v :: S) h := Rg rfl
theorem e108_148 {L : Lo} {S : List Value} {h : Hp} {x z : Int32} : Run 108 148 L (.int z :: .int x :: S) h = if z ≤ x then Run 108 174 L S h else Run 108 151 L S h := Rbr (c := cnd .ge x z = true) (off := 26) rfl rfl cnd_ge
theorem e108_151 {L : Lo} {S : List Value} {h : Hp} : Run 108 151 L S h = Run 108 154 L (.long (31 : Int64) :: S) h := Rg rfl
theorem e108_154 {L : Lo} {S : List Value} {h : Hp} {x0 : Option Value} {v : Int64} : Run 108 154 (x0 :: some (.long v) :: L) S h = Run 108 155 (x0 :: some (.long v) :: L) (.long v :: S) h := Rg rfl
theorem e108_155 {L : Lo} {S : List Value} {h : Hp} {x z : Int64} : Run 108 155 L (.long z :: .long x :: S) h = Run 108 156 L (.long (x * z) :: S) h := Rg rfl
theorem e108_156 {L : Lo} {S : List Value} {h : Hp} {v : Nat} : Run 108 156 (some (.ref v) :: L) S h = Run 108 157 (some (.ref v) :: L) (.ref v :: S) h := Rg rfl
theorem e108_157 {L : Lo} {S : List Value} {h : Hp} {b : Nat} : Run 108 157 L (.ref b :: S) h = (gf h 8 0 b).bind fun v => Run 108 160 L (v :: S) h := Rb rfl fun _ => rfl
theorem e108_160 {L : Lo} {S : List Value} {h : Hp} {x0 x1 x2 x3 : Option Value} {v : Int32} : Run 108 160 (x0 :: x1 :: x2 :: x3 :: some (.int v) :: L) S h = Run 108 162 (x0 :: x1 :: x2 :: x3 :: some (.int v) :: L) (.int v :: S) h := Rg rfl
set_option maxRecDepth 100000 in
theorem e108_162 {L : Lo} {h : Hp} {a2 : Int32} {a1 : Nat} {a0 : Int64} (hO : isO h a1 6 = true) : Run 108 162 L [.int a2, .ref a1, .long a0] h = (Run 52 0 [some (.ref a1), some (.int a2)] [] h).bind fun o => aft 108 162 165 L [.long a0] o := Rcv (c := 52) (As := [.int a2]) (S' := [.long a0]) (pc' := 165) 6 rfl hO
theorem e108_165 {L : Lo} {S : List Value} {h : Hp} {x : Int32} : Run 108 165 L (.int x :: S) h = Run 108 166 L (.long x.toInt64 :: S) h := Rg rfl
theorem e108_166 {L : Lo} {S : List Value} {h : Hp} {x z : Int64} : Run 108 166 L (.long z :: .long x :: S) h = Run 108 167 L (.long (x + z) :: S) h := Rg rfl
theorem e108_167 {L : Lo} {S : List Value} {h : Hp} {x0 : Option Value} {y w : Option Value} {v : Int64} : Run 108 167 (x0 :: y :: w :: L) (.long v :: S) h = Run 108 168 (ck x0 :: some (.long v) :: none :: L) S h := Rg rfl
theorem e108_168 {L : Lo} {S : List Value} {h : Hp} {x0 x1 x2 x3 : Option Value} {v : Int32} : Run 108 168 (x0 :: x1 :: x2 :: x3 :: some (.int v) :: L) S h = Run 108 171 (x0 :: x1 :: x2 :: x3 :: some (.int (v + 1)) :: L) S h := Rg rfl
theorem e108_171 {L : Lo} {S : List Value} {h : Hp} : Run 108 171 L S h = Run 108 145 L S h := Rg rfl
theorem e108_174 {L : Lo} {S : List Value} {h : Hp} : Run 108 174 L S h = Run 108 177 L (.long (31 : Int64) :: S) h := Rg rfl
theorem e108_177 {L : Lo} {S : List Value} {h : Hp} {x0 : Option Value} {v : Int64} : Run 108 177 (x0 :: some (.long v) :: L) S h = Run 108 178 (x0 :: some (.long v) :: L) (.long v :: S) h := Rg rfl
theorem e108_178 {L : Lo} {S : List Value} {h : Hp} {x z : Int64} : Run 108 178 L (.long z :: .long x :: S) h = Run 108 179 L (.long (x * z) :: S) h := Rg rfl
theorem e108_179 {L : Lo} {S : List Value} {h : Hp} {v : Nat} : Run 108 179 (some (.ref v) :: L) S h = Run 108 180 (some (.ref v) :: L) (.ref v :: S) h := Rg rfl
theorem e108_180 {L : Lo} {S : List Value} {h : Hp} {b : Nat} : Run 108 180 L (.ref b :: S) h = (gf h 8 1 b).bind fun v => Run 108 183 L (v :: S) h := Rb rfl fun _ => rfl
theorem e108_183 {L : Lo} {S : List Value} {h : Hp} {b : Nat} : Run 108 183 L (.ref b :: S) h = (gf h 4 1 b).bind fun v => Run 108 186 L (v :: S) h := Rb rfl fun _ => rfl
theorem e108_186 {L : Lo} {S : List Value} {h : Hp} {x : Int32} : Run 108 186 L (.int x :: S) h = Run 108 187 L (.long x.toInt64 :: S) h := Rg rfl
theorem e108_187 {L : Lo} {S : List Value} {h : Hp} {x z : Int64} : Run 108 187 L (.long z :: .long x :: S) h = Run 108 188 L (.long (x + z) :: S) h := Rg rfl
theorem e108_188 {L : Lo} {h : Hp} {x : Int64} : Run 108 188 L [.long x] h = some (.inl (some (.long x)), h) := Rd rfl
theorem e109_0 {L : Lo} {S : List Value} {h : Hp} {v : Nat} : Run 109 0 (some (.ref v) :: L) S h = Run 109 1 (some (.ref v) :: L) (.ref v :: S) h := Rg rfl
theorem e109_1 {L : Lo} {S : List Value} {h : Hp} {b : Nat} : Run 109 1 L (.ref b :: S) h = (gf h 8 0 b).bind fun v => Run 109 4 L (v :: S) h := Rb rfl fun _ => rfl
theorem e109_4 {L : Lo} {S : List Value} {h : Hp} {x0 : Option Value} {v : Int32} : Run 109 4 (x0 :: some (.int v) :: L) S h = Run 109 5 (x0 :: some (.int v) :: L) (.int v :: S) h := Rg rfl
set_option maxRecDepth 100000 in
theorem e109_5 {L : Lo} {h : Hp} {a1 : Int32} {a0 : Nat} (hO : isO h a0 6 = true) : Run 109 5 L [.int a1, .ref a0] h = (Run 44 0 [some (.ref a0), some (.int a1)] [] h).bind fun o => aft 109 5 8 L [] o := Rcv (c := 44) (As := [.int a1]) (S' := []) (pc' := 8) 6 rfl hO
theorem e109_8 {L : Lo} {S : List Value} {h : Hp} {x : Int32} : Run 109 8 L (.int x :: S) h = if x = 0 then Run 109 11 L S h else Run 109 22 L S h := RbrN (c := cnd .ne x 0 = true) (off := 14) rfl rfl cnd_ne
theorem e109_11 {L : Lo} {h : Hp} : Run 109 11 L [] h = some (.inr "java/lang/IndexOutOfBoundsException", hbump h) := Rd rfl
theorem e109_22 {L : Lo} {h : Hp} : Run 109 22 L [] h = some (.inl none, h) := Rd rfl
theorem e110_0 {L : Lo} {S : List Value} {h : Hp} {v : Nat} : Run 110 0 (some (.ref v) :: L) S h = Run 110 1 (some (.ref v) :: L) (.ref v :: S) h := Rg rfl
theorem e110_1 {L : Lo} {S : List Value} {h : Hp} {b : Nat} : Run 110 1 L (.ref b :: S) h = (gf h 8 0 b).bind fun v => Run 110 4 L (v :: S) h := Rb rfl fun _ => rfl
theorem e110_4 {L : Lo} {S : List Value} {h : Hp} {x0 : Option Value} {v : Int32} : Run 110 4 (x0 :: some (.int v) :: L) S h = Run 110 5 (x0 :: some (.int v) :: L) (.int v :: S) h := Rg rfl
set_option maxRecDepth 100000 in
theorem e110_5 {L : Lo} {h : Hp} {a1 : Int32} {a0 : Nat} (hO : isO h a0 6 = true) : Run 110 5 L [.int a1, .ref a0] h = (Run 45 0 [some (.ref a0), some (.int a1)] [] h).bind fun o => aft 110 5 8 L [] o := Rcv (c := 45) (As := [.int a1]) (S' := []) (pc' := 8) 6 rfl hO
theorem e110_8 {L : Lo} {S : List Value} {h : Hp} {x : Int32} : Run 110 8 L (.int x :: S) h = if x = 0 then Run 110 11 L S h else Run 110 22 L S h := RbrN (c := cnd .ne x 0 = true) (off := 14) rfl rfl cnd_ne
theorem e110_11 {L : Lo} {h : Hp} : Run 110 11 L [] h = some (.inr "java/lang/IndexOutOfBoundsException", hbump h) := Rd rfl
theorem e110_22 {L : Lo} {h : Hp} : Run 110 22 L [] h = some (.inl none, h) := Rd rfl
theorem e111_0 {L : Lo} {S : List Value} {h : Hp} {v : Nat} : Run 111 0 (some (.ref v) :: L) S h = Run 111 1 (some (.ref v) :: L) (.ref v :: S) h := Rg rfl
theorem e111_1 {L : Lo} {S : List Value} {h : Hp} {x0 : Option Value} {v : Int32} : Run 111 1 (x0 :: some (.int v) :: L) S h = Run 111 2 (x0 :: some (.int v) :: L) (.int v :: S) h := Rg rfl
set_option maxRecDepth 100000 in
theorem e111_2 {L : Lo} {h : Hp} {a1 : Int32} {a0 : Nat} (hO : isO h a0 8 = true) : Run 111 2 L [.int a1, .ref a0] h = (Run 110 0 [some (.ref a0), some (.int a1)] [] h).bind fun o => aft 111 2 5 L [] o := Rcv (c := 110) (As := [.int a1]) (S' := []) (pc' := 5) 8 rfl hO
theorem e111_5 {L : Lo} {S : List Value} {h : Hp} {v : Nat} : Run 111 5 (some (.ref v) :: L) S h = Run 111 6 (some (.ref v) :: L) (.ref v :: S) h := Rg rfl
theorem e111_6 {L : Lo} {S : List Value} {h : Hp} {x0 x1 : Option Value} {v : Int32} : Run 111 6 (x0 :: x1 :: some (.int v) :: L) S h = Run 111 7 (x0 :: x1 :: some (.int v) :: L) (.int v :: S) h := Rg rfl
set_option maxRecDepth 100000 in
theorem e111_7 {L : Lo} {h : Hp} {a1 : Int32} {a0 : Nat} (hO : isO h a0 8 = true) : Run 111 7 L [.int a1, .ref a0] h = (Run 110 0 [some (.ref a0), some (.int a1)] [] h).bind fun o => aft 111 7 10 L [] o := Rcv (c := 110) (As := [.int a1]) (S' := []) (pc' := 10) 8 rfl hO
theorem e111_10 {L : Lo} {S : List Value} {h : Hp} {x0 : Option Value} {v : Int32} : Run 111 10 (x0 :: some (.int v) :: L) S h = Run 111 11 (x0 :: some (.int v) :: L) (.int v :: S) h := Rg rfl
theorem e111_11 {L : Lo} {S : List Value} {h : Hp} {x0 x1 : Option Value} {v : Int32} : Run 111 11 (x0 :: x1 :: some (.int v) :: L) S h = Run 111 12 (x0 :: x1 :: some (.int v) :: L) (.int v :: S) h := Rg rfl
theorem e111_12 {L : Lo} {S : List Value} {h : Hp} {x z : Int32} : Run 111 12 L (.int z :: .int x :: S) h = if x = z then Run 111 15 L S h else Run 111 26 L S h := RbrN (c := cnd .ne x z = true) (off := 14) rfl rfl cnd_ne
theorem e111_15 {L : Lo} {h : Hp} : Run 111 15 L [] h = some (.inr "java/lang/IllegalArgumentException", hbump h) := Rd rfl
theorem e111_26 {L : Lo} {h : Hp} : Run 111 26 L [] h = some (.inl none, h) := Rd rfl
theorem e112_0 {L : Lo} {S : List Value} {h : Hp} {v : Int32} : Run 112 0 (some (.int v) :: L) S h = Run 112 1 (some (.int v) :: L) (.int v :: S) h := Rg rfl
theorem e112_1 {L : Lo} {S : List Value} {h : Hp} {x : Int32} : Run 112 1 L (.int x :: S) h = if x = 0 then Run 112 9 L S h else Run 112 4 L S h := Rbr (c := cnd .eq x 0 = true) (off := 8) rfl rfl cnd_eq
theorem e112_4 {L : Lo} {S : List Value} {h : Hp} {v : Int32} : Run 112 4 (some (.int v) :: L) S h = Run 112 5 (some (.int v) :: L) (.int v :: S) h := Rg rfl
theorem e112_5 {L : Lo} {S : List Value} {h : Hp} : Run 112 5 L S h = Run 112 6 L (.int 1 :: S) h := Rg rfl
theorem e112_6 {L : Lo} {S : List Value} {h : Hp} {x z : Int32} : Run 112 6 L (.int z :: .int x :: S) h = if x = z then Run 112 9 L S h else Run 112 13 L S h := RbrN (c := cnd .ne x z = true) (off := 7) rfl rfl cnd_ne
theorem e112_9 {L : Lo} {S : List Value} {h : Hp} : Run 112 9 L S h = Run 112 10 L (.int 1 :: S) h := Rg rfl
theorem e112_10 {L : Lo} {S : List Value} {h : Hp} : Run 112 10 L S h = Run 112 14 L S h := Rg rfl
theorem e112_13 {L : Lo} {S : List Value} {h : Hp} : Run 112 13 L S h = Run 112 14 L (.int 0 :: S) h := Rg rfl
theorem e112_14 {L : Lo} {h : Hp} {x : Int32} (hx : narrow .boolean (.int x) = .int x) : Run 112 14 L [.int x] h = some (.inl (some (.int x)), h) := Rd (if_pos hx)
theorem e113_0 {L : Lo} {S : List Value} {h : Hp} {v : Int32} : Run 113 0 (some (.int v) :: L) S h = Run 113 1 (some (.int v) :: L) (.int v :: S) h := Rg rfl
theorem e113_1 {L : Lo} {S : List Value} {h : Hp} {x : Int32} : Run 113 1 L (.int x :: S) h = if x < 0 then Run 113 14 L S h else Run 113 4 L S h := Rbr (c := cnd .lt x 0 = true) (off := 13) rfl rfl cnd_lt
theorem e113_4 {L : Lo} {S : List Value} {h : Hp} {v : Int32} : Run 113 4 (some (.int v) :: L) S h = Run 113 5 (some (.int v) :: L) (.int v :: S) h := Rg rfl
theorem e113_5 {L : Lo} {S : List Value} {h : Hp} : Run 113 5 L S h = Run 113 7 L (.int 6 :: S) h := Rg rfl
theorem e113_7 {L : Lo} {S : List Value} {h : Hp} {x z : Int32} : Run 113 7 L (.int z :: .int x :: S) h = if z ≤ x then Run 113 14 L S h else Run 113 10 L S h := Rbr (c := cnd .ge x z = true) (off := 7) rfl rfl cnd_ge
theorem e113_10 {L : Lo} {S : List Value} {h : Hp} : Run 113 10 L S h = Run 113 11 L (.int 1 :: S) h := Rg rfl
theorem e113_11 {L : Lo} {S : List Value} {h : Hp} : Run 113 11 L S h = Run 113 15 L S h := Rg rfl
theorem e113_14 {L : Lo} {S : List Value} {h : Hp} : Run 113 14 L S h = Run 113 15 L (.int 0 :: S) h := Rg rfl
theorem e113_15 {L : Lo} {h : Hp} {x : Int32} (hx : narrow .boolean (.int x) = .int x) : Run 113 15 L [.int x] h = some (.inl (some (.int x)), h) := Rd (if_pos hx)
theorem e114_0 {L : Lo} {S : List Value} {h : Hp} {v : Int32} : Run 114 0 (some (.int v) :: L) S h = Run 114 1 (some (.int v) :: L) (.int v :: S) h := Rg rfl
theorem e114_1 {L : Lo} {S : List Value} {h : Hp} {x0 : Option Value} {v : Int32} : Run 114 1 (x0 :: some (.int v) :: L) S h = Run 114 2 (x0 :: some (.int v) :: L) (.int v :: S) h := Rg rfl
theorem e114_2 {L : Lo} {S : List Value} {h : Hp} {x z : Int32} (hz : ¬ z = 0) : Run 114 2 L (.int z :: .int x :: S) h = Run 114 3 L (.int (x - x / z * z) :: S) h := Rg (if_neg hz)
theorem e114_3 {L : Lo} {S : List Value} {h : Hp} {x0 x1 : Option Value} {y : Option Value} {v : Int32} : Run 114 3 (x0 :: x1 :: y :: L) (.int v :: S) h = Run 114 4 (x0 :: ck x1 :: some (.int v) :: L) S h := Rg rfl
theorem e114_4 {L : Lo} {S : List Value} {h : Hp} {v : Int32} : Run 114 4 (some (.int v) :: L) S h = Run 114 5 (some (.int v) :: L) (.int v :: S) h := Rg rfl
theorem e114_5 {L : Lo} {S : List Value} {h : Hp} {x0 : Option Value} {v : Int32} : Run 114 5 (x0 :: some (.int v) :: L) S h = Run 114 6 (x0 :: some (.int v) :: L) (.int v :: S) h := Rg rfl
theorem e114_6 {L : Lo} {S : List Value} {h : Hp} {x z : Int32} : Run 114 6 L (.int z :: .int x :: S) h = Run 114 7 L (.int (x ^^^ z) :: S) h := Rg rfl
theorem e114_7 {L : Lo} {S : List Value} {h : Hp} {x : Int32} : Run 114 7 L (.int x :: S) h = if 0 ≤ x then Run 114 18 L S h else Run 114 10 L S h := Rbr (c := cnd .ge x 0 = true) (off := 11) rfl rfl cnd_ge
theorem e114_10 {L : Lo} {S : List Value} {h : Hp} {x0 x1 : Option Value} {v : Int32} : Run 114 10 (x0 :: x1 :: some (.int v) :: L) S h = Run 114 11 (x0 :: x1 :: some (.int v) :: L) (.int v :: S) h := Rg rfl
theorem e114_11 {L : Lo} {S : List Value} {h : Hp} {x : Int32} : Run 114 11 L (.int x :: S) h = if x = 0 then Run 114 18 L S h else Run 114 14 L S h := Rbr (c := cnd .eq x 0 = true) (off := 7) rfl rfl cnd_eq
theorem e114_14 {L : Lo} {S : List Value} {h : Hp} {x0 x1 : Option Value} {v : Int32} : Run 114 14 (x0 :: x1 :: some (.int v) :: L) S h = Run 114 15 (x0 :: x1 :: some (.int v) :: L) (.int v :: S) h := Rg rfl
theorem e114_15 {L : Lo} {S : List Value} {h : Hp} {x0 : Option Value} {v : Int32} : Run 114 15 (x0 :: some (.int v) :: L) S h = Run 114 16 (x0 :: some (.int v) :: L) (.int v :: S) h := Rg rfl
theorem e114_16 {L : Lo} {S : List Value} {h : Hp} {x z : Int32} : Run 114 16 L (.int z :: .int x :: S) h = Run 114 17 L (.int (x + z) :: S) h := Rg rfl
theorem e114_17 {L : Lo} {h : Hp} {x : Int32} : Run 114 17 L [.int x] h = some (.inl (some (.int x)), h) := Rd (if_pos (c := narrow .int (.int x) = .int x) rfl)
theorem e114_18 {L : Lo} {S : List Value} {h : Hp} {x0 x1 : Option Value} {v : Int32} : Run 114 18 (x0 :: x1 :: some (.int v) :: L) S h = Run 114 19 (x0 :: x1 :: some (.int v) :: L) (.int v :: S) h := Rg rfl
theorem e114_19 {L : Lo} {h : Hp} {x : Int32} : Run 114 19 L [.int x] h = some (.inl (some (.int x)), h) := Rd (if_pos (c := narrow .int (.int x) = .int x) rfl)
theorem e115_0 {L : Lo} {S : List Value} {h : Hp} {v : Int32} : Run 115 0 (some (.int v) :: L) S h = Run 115 1 (some (.int v) :: L) (.int v :: S) h := Rg rfl
theorem e115_1 {L : Lo} {S : List Value} {h : Hp} {x : Int32} : Run 115 1 L (.int x :: S) h = if 0 ≤ x then Run 115 9 L S h else Run 115 4 L S h := Rbr (c := cnd .ge x 0 = true) (off := 8) rfl rfl cnd_ge
theorem e115_4 {L : Lo} {S : List Value} {h : Hp} {v : Int32} : Run 115 4 (some (.int v) :: L) S h = Run 115 5 (some (.int v) :: L) (.int v :: S) h := Rg rfl
theorem e115_5 {L : Lo} {S : List Value} {h : Hp} {x : Int32} : Run 115 5 L (.int x :: S) h = Run 115 6 L (.int (-x) :: S) h := Rg rfl
theorem e115_6 {L : Lo} {S : List Value} {h : Hp} : Run 115 6 L S h = Run 115 10 L S h := Rg rfl
theorem e115_9 {L : Lo} {S : List Value} {h : Hp} {v : Int32} : Run 115 9 (some (.int v) :: L) S h = Run 115 10 (some (.int v) :: L) (.int v :: S) h := Rg rfl
theorem e115_10 {L : Lo} {h : Hp} {x : Int32} : Run 115 10 L [.int x] h = some (.inl (some (.int x)), h) := Rd (if_pos (c := narrow .int (.int x) = .int x) rfl)
theorem e116_0 {L : Lo} {S : List Value} {h : Hp} {v : Int32} : Run 116 0 (some (.int v) :: L) S h = Run 116 1 (some (.int v) :: L) (.int v :: S) h := Rg rfl
theorem e116_1 {L : Lo} {S : List Value} {h : Hp} {x0 : Option Value} {v : Int32} : Run 116 1 (x0 :: some (.int v) :: L) S h = Run 116 2 (x0 :: some (.int v) :: L) (.int v :: S) h := Rg rfl
theorem e116_2 {L : Lo} {S : List Value} {h : Hp} {x z : Int32} : Run 116 2 L (.int z :: .int x :: S) h = if x < z then Run 116 9 L S h else Run 116 5 L S h := Rbr (c := cnd .lt x z = true) (off := 7) rfl rfl cnd_lt
theorem e116_5 {L : Lo} {S : List Value} {h : Hp} {v : Int32} : Run 116 5 (some (.int v) :: L) S h = Run 116 6 (some (.int v) :: L) (.int v :: S) h := Rg rfl
theorem e116_6 {L : Lo} {S : List Value} {h : Hp} : Run 116 6 L S h = Run 116 10 L S h := Rg rfl
theorem e116_9 {L : Lo} {S : List Value} {h : Hp} {x0 : Option Value} {v : Int32} : Run 116 9 (x0 :: some (.int v) :: L) S h = Run 116 10 (x0 :: some (.int v) :: L) (.int v :: S) h := Rg rfl
theorem e116_10 {L : Lo} {h : Hp} {x : Int32} : Run 116 10 L [.int x] h = some (.inl (some (.int x)), h) := Rd (if_pos (c := narrow .int (.int x) = .int x) rfl)
theorem e117_0 {L : Lo} {S : List Value} {h : Hp} {v : Int32} : Run 117 0 (some (.int v) :: L) S h = Run 117 1 (some (.int v) :: L) (.int v :: S) h := Rg rfl
theorem e117_1 {L : Lo} {S : List Value} {h : Hp} {x0 : Option Value} {v : Int32} : Run 117 1 (x0 :: some (.int v) :: L) S h = Run 117 2 (x0 :: some (.int v) :: L) (.int v :: S) h := Rg rfl
theorem e117_2 {L : Lo} {S : List Value} {h : Hp} {x z : Int32} : Run 117 2 L (.int z :: .int x :: S) h = if z < x then Run 117 9 L S h else Run 117 5 L S h := Rbr (c := cnd .gt x z = true) (off := 7) rfl rfl cnd_gt
theorem e117_5 {L : Lo} {S : List Value} {h : Hp} {v : Int32} : Run 117 5 (some (.int v) :: L) S h = Run 117 6 (some (.int v) :: L) (.int v :: S) h := Rg rfl
theorem e117_6 {L : Lo} {S : List Value} {h : Hp} : Run 117 6 L S h = Run 117 10 L S h := Rg rfl
theorem e117_9 {L : Lo} {S : List Value} {h : Hp} {x0 : Option Value} {v : Int32} : Run 117 9 (x0 :: some (.int v) :: L) S h = Run 117 10 (x0 :: some (.int v) :: L) (.int v :: S) h := Rg rfl
theorem e117_10 {L : Lo} {h : Hp} {x : Int32} : Run 117 10 L [.int x] h = some (.inl (some (.int x)), h) := Rd (if_pos (c := narrow .int (.int x) = .int x) rfl)
theorem e118_0 {L : Lo} {S : List Value} {h : Hp} : Run 118 0 L S h = Run 118 1 L (.int 0 :: S) h := Rg rfl
theorem e118_1 {L : Lo} {S : List Value} {h : Hp} {x0 x1 : Option Value} {y : Option Value} {v : Int32} : Run 118 1 (x0 :: x1 :: y :: L) (.int v :: S) h = Run 118 2 (x0 :: ck x1 :: some (.int v) :: L) S h := Rg rfl
theorem e118_2 {L : Lo} {S : List Value} {h : Hp} {v : Nat} : Run 118 2 (some (.ref v) :: L) S h = Run 118 3 (some (.ref v) :: L) (.ref v :: S) h := Rg rfl
theorem e118_3 {L : Lo} {S : List Value} {h : Hp} {b : Nat} : Run 118 3 L (.ref b :: S) h = (alen h b).bind fun N => Run 118 4 L (.int (Int32.ofNat N) :: S) h := Rb rfl fun _ => rfl
theorem e118_4 {L : Lo} {S : List Value} {h : Hp} {x0 x1 x2 : Option Value} {y : Option Value} {v : Int32} : Run 118 4 (x0 :: x1 :: x2 :: y :: L) (.int v :: S) h = Run 118 5 (x0 :: x1 :: ck x2 :: some (.int v) :: L) S h := Rg rfl
theorem e118_5 {L : Lo} {S : List Value} {h : Hp} {x0 x1 : Option Value} {v : Int32} : Run 118 5 (x0 :: x1 :: some (.int v) :: L) S h = Run 118 6 (x0 :: x1 :: some (.int v) :: L) (.int v :: S) h := Rg rfl
theorem e118_6 {L : Lo} {S : List Value} {h : Hp} {x0 x1 x2 : Option Value} {v : Int32} : Run 118 6 (x0 :: x1 :: x2 :: some (.int v) :: L) S h = Run 118 7 (x0 :: x1 :: x2 :: some (.int v) :: L) (.int v :: S) h := Rg rfl
theorem e118_7 {L : Lo} {S : List Value} {h : Hp} {x z : Int32} : Run 118 7 L (.int z :: .int x :: S) h = if z ≤ x then Run 118 20 L S h else Run 118 10 L S h := Rbr (c := cnd .ge x z = true) (off := 13) rfl rfl cnd_ge
theorem e118_10 {L : Lo} {S : List Value} {h : Hp} {v : Nat} : Run 118 10 (some (.ref v) :: L) S h = Run 118 11 (some (.ref v) :: L) (.ref v :: S) h := Rg rfl
theorem e118_11 {L : Lo} {S : List Value} {h : Hp} {x0 x1 : Option Value} {v : Int32} : Run 118 11 (x0 :: x1 :: some (.int v) :: L) S h = Run 118 12 (x0 :: x1 :: some (.int v) :: L) (.int v :: S) h := Rg rfl
theorem e118_12 {L : Lo} {S : List Value} {h : Hp} {x0 : Option Value} {v : Int32} : Run 118 12 (x0 :: some (.int v) :: L) S h = Run 118 13 (x0 :: some (.int v) :: L) (.int v :: S) h := Rg rfl
theorem e118_13 {L : Lo} {S : List Value} {h : Hp} {v : Int32} {i : Int32} {b : Nat} : Run 118 13 L (.int v :: .int i :: .ref b :: S) h = (paI h b i v).bind fun h1 => Run 118 14 L S h1 := Rb rfl fun _ => rfl
theorem e118_14 {L : Lo} {S : List Value} {h : Hp} {x0 x1 : Option Value} {v : Int32} : Run 118 14 (x0 :: x1 :: some (.int v) :: L) S h = Run 118 17 (x0 :: x1 :: some (.int (v + 1)) :: L) S h := Rg rfl
theorem e118_17 {L : Lo} {S : List Value} {h : Hp} : Run 118 17 L S h = Run 118 5 L S h := Rg rfl
theorem e118_20 {L : Lo} {h : Hp} : Run 118 20 L [] h = some (.inl none, h) := Rd rfl
